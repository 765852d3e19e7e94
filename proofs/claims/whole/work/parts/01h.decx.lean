theorem dX10_rank_0 : decode cX10_rank 0 = .ok (.aload_n 0, 1) := by decide +kernel
theorem dX10_rank_1 : decode cX10_rank 1 = .ok (.getfield 17, 3) := by decide +kernel
theorem dX10_rank_4 : decode cX10_rank 4 = .ok (.iload_n 1, 1) := by decide +kernel
theorem dX10_rank_5 : decode cX10_rank 5 = .ok (.invokevirtual 126, 3) := by decide +kernel
theorem dX10_rank_8 : decode cX10_rank 8 = .ok (.ifCond .eq 14, 3) := by decide +kernel
theorem dX10_rank_11 : decode cX10_rank 11 = .ok (.aload_n 0, 1) := by decide +kernel
theorem dX10_rank_12 : decode cX10_rank 12 = .ok (.getfield 21, 3) := by decide +kernel
theorem dX10_rank_15 : decode cX10_rank 15 = .ok (.iload_n 1, 1) := by decide +kernel
theorem dX10_rank_16 : decode cX10_rank 16 = .ok (.invokevirtual 107, 3) := by decide +kernel
theorem dX10_rank_19 : decode cX10_rank 19 = .ok (.goto 9, 3) := by decide +kernel
theorem dX10_rank_22 : decode cX10_rank 22 = .ok (.aload_n 0, 1) := by decide +kernel
theorem dX10_rank_23 : decode cX10_rank 23 = .ok (.bipush (-2), 2) := by decide +kernel
theorem dX10_rank_25 : decode cX10_rank 25 = .ok (.invokevirtual 120, 3) := by decide +kernel
theorem dX10_rank_28 : decode cX10_rank 28 = .ok (.ireturn, 1) := by decide +kernel
theorem dX10_closed_0 : decode cX10_closed 0 = .ok (.aload_n 0, 1) := by decide +kernel
theorem dX10_closed_1 : decode cX10_closed 1 = .ok (.getfield 17, 3) := by decide +kernel
theorem dX10_closed_4 : decode cX10_closed 4 = .ok (.iload_n 1, 1) := by decide +kernel
theorem dX10_closed_5 : decode cX10_closed 5 = .ok (.invokevirtual 126, 3) := by decide +kernel
theorem dX10_closed_8 : decode cX10_closed 8 = .ok (.ifCond .eq 14, 3) := by decide +kernel
theorem dX10_closed_11 : decode cX10_closed 11 = .ok (.aload_n 0, 1) := by decide +kernel
theorem dX10_closed_12 : decode cX10_closed 12 = .ok (.getfield 21, 3) := by decide +kernel
theorem dX10_closed_15 : decode cX10_closed 15 = .ok (.iload_n 1, 1) := by decide +kernel
theorem dX10_closed_16 : decode cX10_closed 16 = .ok (.invokevirtual 129, 3) := by decide +kernel
theorem dX10_closed_19 : decode cX10_closed 19 = .ok (.goto 9, 3) := by decide +kernel
theorem dX10_closed_22 : decode cX10_closed 22 = .ok (.aload_n 0, 1) := by decide +kernel
theorem dX10_closed_23 : decode cX10_closed 23 = .ok (.bipush (-2), 2) := by decide +kernel
theorem dX10_closed_25 : decode cX10_closed 25 = .ok (.invokevirtual 120, 3) := by decide +kernel
theorem dX10_closed_28 : decode cX10_closed 28 = .ok (.ireturn, 1) := by decide +kernel
theorem dX10_flats_0 : decode cX10_flats 0 = .ok (.iload_n 1, 1) := by decide +kernel
theorem dX10_flats_1 : decode cX10_flats 1 = .ok (.ifCond .lt 13, 3) := by decide +kernel
theorem dX10_flats_4 : decode cX10_flats 4 = .ok (.iload_n 1, 1) := by decide +kernel
theorem dX10_flats_5 : decode cX10_flats 5 = .ok (.iconst 4, 1) := by decide +kernel
theorem dX10_flats_6 : decode cX10_flats 6 = .ok (.if_icmp .gt 8, 3) := by decide +kernel
theorem dX10_flats_9 : decode cX10_flats 9 = .ok (.iload_n 2, 1) := by decide +kernel
theorem dX10_flats_10 : decode cX10_flats 10 = .ok (.iconst (-1), 1) := by decide +kernel
theorem dX10_flats_11 : decode cX10_flats 11 = .ok (.if_icmp .ge 10, 3) := by decide +kernel
theorem dX10_flats_14 : decode cX10_flats 14 = .ok (.aload_n 0, 1) := by decide +kernel
theorem dX10_flats_15 : decode cX10_flats 15 = .ok (.bipush (-2), 2) := by decide +kernel
theorem dX10_flats_17 : decode cX10_flats 17 = .ok (.invokevirtual 120, 3) := by decide +kernel
theorem dX10_flats_20 : decode cX10_flats 20 = .ok (.ireturn, 1) := by decide +kernel
theorem dX10_flats_21 : decode cX10_flats 21 = .ok (.aload_n 0, 1) := by decide +kernel
theorem dX10_flats_22 : decode cX10_flats 22 = .ok (.getfield 21, 3) := by decide +kernel
theorem dX10_flats_25 : decode cX10_flats 25 = .ok (.iload_n 1, 1) := by decide +kernel
theorem dX10_flats_26 : decode cX10_flats 26 = .ok (.invokevirtual 132, 3) := by decide +kernel
theorem dX10_flats_29 : decode cX10_flats 29 = .ok (.iload_n 2, 1) := by decide +kernel
theorem dX10_flats_30 : decode cX10_flats 30 = .ok (.invokevirtual 136, 3) := by decide +kernel
theorem dX10_flats_33 : decode cX10_flats 33 = .ok (.ireturn, 1) := by decide +kernel
theorem dX10_sign_0 : decode cX10_sign 0 = .ok (.aload_n 0, 1) := by decide +kernel
theorem dX10_sign_1 : decode cX10_sign 1 = .ok (.getfield 17, 3) := by decide +kernel
theorem dX10_sign_4 : decode cX10_sign 4 = .ok (.iload_n 1, 1) := by decide +kernel
theorem dX10_sign_5 : decode cX10_sign 5 = .ok (.invokevirtual 126, 3) := by decide +kernel
theorem dX10_sign_8 : decode cX10_sign 8 = .ok (.ifCond .ne 10, 3) := by decide +kernel
theorem dX10_sign_11 : decode cX10_sign 11 = .ok (.aload_n 0, 1) := by decide +kernel
theorem dX10_sign_12 : decode cX10_sign 12 = .ok (.bipush (-2), 2) := by decide +kernel
theorem dX10_sign_14 : decode cX10_sign 14 = .ok (.invokevirtual 120, 3) := by decide +kernel
theorem dX10_sign_17 : decode cX10_sign 17 = .ok (.ireturn, 1) := by decide +kernel
theorem dX10_sign_18 : decode cX10_sign 18 = .ok (.aload_n 0, 1) := by decide +kernel
theorem dX10_sign_19 : decode cX10_sign 19 = .ok (.getfield 21, 3) := by decide +kernel
theorem dX10_sign_22 : decode cX10_sign 22 = .ok (.iload_n 1, 1) := by decide +kernel
theorem dX10_sign_23 : decode cX10_sign 23 = .ok (.invokevirtual 141, 3) := by decide +kernel
theorem dX10_sign_26 : decode cX10_sign 26 = .ok (.ifCond .ne 10, 3) := by decide +kernel
theorem dX10_sign_29 : decode cX10_sign 29 = .ok (.aload_n 0, 1) := by decide +kernel
theorem dX10_sign_30 : decode cX10_sign 30 = .ok (.bipush (-3), 2) := by decide +kernel
theorem dX10_sign_32 : decode cX10_sign 32 = .ok (.invokevirtual 120, 3) := by decide +kernel
theorem dX10_sign_35 : decode cX10_sign 35 = .ok (.ireturn, 1) := by decide +kernel
theorem dX10_sign_36 : decode cX10_sign 36 = .ok (.aload_n 0, 1) := by decide +kernel
theorem dX10_sign_37 : decode cX10_sign 37 = .ok (.getfield 21, 3) := by decide +kernel
theorem dX10_sign_40 : decode cX10_sign 40 = .ok (.iload_n 1, 1) := by decide +kernel
theorem dX10_sign_41 : decode cX10_sign 41 = .ok (.invokevirtual 144, 3) := by decide +kernel
theorem dX10_sign_44 : decode cX10_sign 44 = .ok (.sipush 1000, 3) := by decide +kernel
theorem dX10_sign_47 : decode cX10_sign 47 = .ok (.iadd, 1) := by decide +kernel
theorem dX10_sign_48 : decode cX10_sign 48 = .ok (.ireturn, 1) := by decide +kernel
theorem dX10_rings_0 : decode cX10_rings 0 = .ok (.iload_n 1, 1) := by decide +kernel
theorem dX10_rings_1 : decode cX10_rings 1 = .ok (.iconst (-1), 1) := by decide +kernel
theorem dX10_rings_2 : decode cX10_rings 2 = .ok (.if_icmp .ge 12, 3) := by decide +kernel
theorem dX10_rings_5 : decode cX10_rings 5 = .ok (.aload_n 0, 1) := by decide +kernel
theorem dX10_rings_6 : decode cX10_rings 6 = .ok (.bipush (-2), 2) := by decide +kernel
theorem dX10_rings_8 : decode cX10_rings 8 = .ok (.invokevirtual 120, 3) := by decide +kernel
theorem dX10_rings_11 : decode cX10_rings 11 = .ok (.goto 14, 3) := by decide +kernel
theorem dX10_rings_14 : decode cX10_rings 14 = .ok (.aload_n 0, 1) := by decide +kernel
theorem dX10_rings_15 : decode cX10_rings 15 = .ok (.getfield 21, 3) := by decide +kernel
theorem dX10_rings_18 : decode cX10_rings 18 = .ok (.invokevirtual 147, 3) := by decide +kernel
theorem dX10_rings_21 : decode cX10_rings 21 = .ok (.iload_n 1, 1) := by decide +kernel
theorem dX10_rings_22 : decode cX10_rings 22 = .ok (.invokevirtual 136, 3) := by decide +kernel
theorem dX10_rings_25 : decode cX10_rings 25 = .ok (.ireturn, 1) := by decide +kernel
theorem dX10_factor_0 : decode cX10_factor 0 = .ok (.iload_n 1, 1) := by decide +kernel
theorem dX10_factor_1 : decode cX10_factor 1 = .ok (.ifCond .lt 14, 3) := by decide +kernel
theorem dX10_factor_4 : decode cX10_factor 4 = .ok (.aload_n 0, 1) := by decide +kernel
theorem dX10_factor_5 : decode cX10_factor 5 = .ok (.getfield 17, 3) := by decide +kernel
theorem dX10_factor_8 : decode cX10_factor 8 = .ok (.iload_n 2, 1) := by decide +kernel
theorem dX10_factor_9 : decode cX10_factor 9 = .ok (.invokevirtual 113, 3) := by decide +kernel
theorem dX10_factor_12 : decode cX10_factor 12 = .ok (.ifCond .ne 10, 3) := by decide +kernel
theorem dX10_factor_15 : decode cX10_factor 15 = .ok (.aload_n 0, 1) := by decide +kernel
theorem dX10_factor_16 : decode cX10_factor 16 = .ok (.bipush (-2), 2) := by decide +kernel
theorem dX10_factor_18 : decode cX10_factor 18 = .ok (.invokevirtual 120, 3) := by decide +kernel
theorem dX10_factor_21 : decode cX10_factor 21 = .ok (.ireturn, 1) := by decide +kernel
theorem dX10_factor_22 : decode cX10_factor 22 = .ok (.aload_n 0, 1) := by decide +kernel
theorem dX10_factor_23 : decode cX10_factor 23 = .ok (.getfield 21, 3) := by decide +kernel
theorem dX10_factor_26 : decode cX10_factor 26 = .ok (.invokevirtual 147, 3) := by decide +kernel
theorem dX10_factor_29 : decode cX10_factor 29 = .ok (.astore_n 3, 1) := by decide +kernel
theorem dX10_factor_30 : decode cX10_factor 30 = .ok (.iload_n 1, 1) := by decide +kernel
theorem dX10_factor_31 : decode cX10_factor 31 = .ok (.aload_n 3, 1) := by decide +kernel
theorem dX10_factor_32 : decode cX10_factor 32 = .ok (.getfield 151, 3) := by decide +kernel
theorem dX10_factor_35 : decode cX10_factor 35 = .ok (.if_icmp .lt 10, 3) := by decide +kernel
theorem dX10_factor_38 : decode cX10_factor 38 = .ok (.aload_n 0, 1) := by decide +kernel
theorem dX10_factor_39 : decode cX10_factor 39 = .ok (.bipush (-3), 2) := by decide +kernel
theorem dX10_factor_41 : decode cX10_factor 41 = .ok (.invokevirtual 120, 3) := by decide +kernel
theorem dX10_factor_44 : decode cX10_factor 44 = .ok (.ireturn, 1) := by decide +kernel
theorem dX10_factor_45 : decode cX10_factor 45 = .ok (.aload_n 0, 1) := by decide +kernel
theorem dX10_factor_46 : decode cX10_factor 46 = .ok (.getfield 21, 3) := by decide +kernel
theorem dX10_factor_49 : decode cX10_factor 49 = .ok (.aload_n 3, 1) := by decide +kernel
theorem dX10_factor_50 : decode cX10_factor 50 = .ok (.getfield 154, 3) := by decide +kernel
theorem dX10_factor_53 : decode cX10_factor 53 = .ok (.iload_n 1, 1) := by decide +kernel
theorem dX10_factor_54 : decode cX10_factor 54 = .ok (.iaload, 1) := by decide +kernel
theorem dX10_factor_55 : decode cX10_factor 55 = .ok (.invokevirtual 158, 3) := by decide +kernel
theorem dX10_factor_58 : decode cX10_factor 58 = .ok (.iload_n 2, 1) := by decide +kernel
theorem dX10_factor_59 : decode cX10_factor 59 = .ok (.iaload, 1) := by decide +kernel
theorem dX10_factor_60 : decode cX10_factor 60 = .ok (.sipush 10000, 3) := by decide +kernel
theorem dX10_factor_63 : decode cX10_factor 63 = .ok (.iadd, 1) := by decide +kernel
theorem dX10_factor_64 : decode cX10_factor 64 = .ok (.ireturn, 1) := by decide +kernel
theorem dX10_polynomial_0 : decode cX10_polynomial 0 = .ok (.aload_n 0, 1) := by decide +kernel
theorem dX10_polynomial_1 : decode cX10_polynomial 1 = .ok (.getfield 17, 3) := by decide +kernel
theorem dX10_polynomial_4 : decode cX10_polynomial 4 = .ok (.iload_n 1, 1) := by decide +kernel
theorem dX10_polynomial_5 : decode cX10_polynomial 5 = .ok (.invokevirtual 126, 3) := by decide +kernel
theorem dX10_polynomial_8 : decode cX10_polynomial 8 = .ok (.ifCond .eq 12, 3) := by decide +kernel
theorem dX10_polynomial_11 : decode cX10_polynomial 11 = .ok (.iload_n 2, 1) := by decide +kernel
theorem dX10_polynomial_12 : decode cX10_polynomial 12 = .ok (.ifCond .lt 8, 3) := by decide +kernel
theorem dX10_polynomial_15 : decode cX10_polynomial 15 = .ok (.iload_n 2, 1) := by decide +kernel
theorem dX10_polynomial_16 : decode cX10_polynomial 16 = .ok (.iconst 4, 1) := by decide +kernel
theorem dX10_polynomial_17 : decode cX10_polynomial 17 = .ok (.if_icmp .le 10, 3) := by decide +kernel
theorem dX10_polynomial_20 : decode cX10_polynomial 20 = .ok (.aload_n 0, 1) := by decide +kernel
theorem dX10_polynomial_21 : decode cX10_polynomial 21 = .ok (.bipush (-2), 2) := by decide +kernel
theorem dX10_polynomial_23 : decode cX10_polynomial 23 = .ok (.invokevirtual 120, 3) := by decide +kernel
theorem dX10_polynomial_26 : decode cX10_polynomial 26 = .ok (.ireturn, 1) := by decide +kernel
theorem dX10_polynomial_27 : decode cX10_polynomial 27 = .ok (.aload_n 0, 1) := by decide +kernel
theorem dX10_polynomial_28 : decode cX10_polynomial 28 = .ok (.getfield 21, 3) := by decide +kernel
theorem dX10_polynomial_31 : decode cX10_polynomial 31 = .ok (.iload_n 1, 1) := by decide +kernel
theorem dX10_polynomial_32 : decode cX10_polynomial 32 = .ok (.iload_n 2, 1) := by decide +kernel
theorem dX10_polynomial_33 : decode cX10_polynomial 33 = .ok (.invokevirtual 162, 3) := by decide +kernel
theorem dX10_polynomial_36 : decode cX10_polynomial 36 = .ok (.sipush 1000, 3) := by decide +kernel
theorem dX10_polynomial_39 : decode cX10_polynomial 39 = .ok (.iadd, 1) := by decide +kernel
theorem dX10_polynomial_40 : decode cX10_polynomial 40 = .ok (.ireturn, 1) := by decide +kernel
theorem dX10_value_0 : decode cX10_value 0 = .ok (.iload_n 1, 1) := by decide +kernel
theorem dX10_value_1 : decode cX10_value 1 = .ok (.bipush (-9), 2) := by decide +kernel
theorem dX10_value_3 : decode cX10_value 3 = .ok (.if_icmp .lt 9, 3) := by decide +kernel
theorem dX10_value_6 : decode cX10_value 6 = .ok (.iload_n 1, 1) := by decide +kernel
theorem dX10_value_7 : decode cX10_value 7 = .ok (.bipush 9, 2) := by decide +kernel
theorem dX10_value_9 : decode cX10_value 9 = .ok (.if_icmp .le 12, 3) := by decide +kernel
theorem dX10_value_12 : decode cX10_value 12 = .ok (.aload_n 0, 1) := by decide +kernel
theorem dX10_value_13 : decode cX10_value 13 = .ok (.bipush (-2), 2) := by decide +kernel
theorem dX10_value_15 : decode cX10_value 15 = .ok (.invokevirtual 120, 3) := by decide +kernel
theorem dX10_value_18 : decode cX10_value 18 = .ok (.goto 14, 3) := by decide +kernel
theorem dX10_value_21 : decode cX10_value 21 = .ok (.aload_n 0, 1) := by decide +kernel
theorem dX10_value_22 : decode cX10_value 22 = .ok (.getfield 21, 3) := by decide +kernel
theorem dX10_value_25 : decode cX10_value 25 = .ok (.iload_n 1, 1) := by decide +kernel
theorem dX10_value_26 : decode cX10_value 26 = .ok (.invokevirtual 165, 3) := by decide +kernel
theorem dX10_value_29 : decode cX10_value 29 = .ok (.ldc 168, 2) := by decide +kernel
theorem dX10_value_31 : decode cX10_value 31 = .ok (.iadd, 1) := by decide +kernel
theorem dX10_value_32 : decode cX10_value 32 = .ok (.ireturn, 1) := by decide +kernel
theorem dX10_within_0 : decode cX10_within 0 = .ok (.aload_n 0, 1) := by decide +kernel
theorem dX10_within_1 : decode cX10_within 1 = .ok (.getfield 17, 3) := by decide +kernel
theorem dX10_within_4 : decode cX10_within 4 = .ok (.iload_n 1, 1) := by decide +kernel
theorem dX10_within_5 : decode cX10_within 5 = .ok (.invokevirtual 113, 3) := by decide +kernel
theorem dX10_within_8 : decode cX10_within 8 = .ok (.ifCond .eq 12, 3) := by decide +kernel
theorem dX10_within_11 : decode cX10_within 11 = .ok (.iload_n 2, 1) := by decide +kernel
theorem dX10_within_12 : decode cX10_within 12 = .ok (.ifCond .lt 8, 3) := by decide +kernel
theorem dX10_within_15 : decode cX10_within 15 = .ok (.iload_n 2, 1) := by decide +kernel
theorem dX10_within_16 : decode cX10_within 16 = .ok (.iconst 4, 1) := by decide +kernel
theorem dX10_within_17 : decode cX10_within 17 = .ok (.if_icmp .lt 10, 3) := by decide +kernel
theorem dX10_within_20 : decode cX10_within 20 = .ok (.aload_n 0, 1) := by decide +kernel
theorem dX10_within_21 : decode cX10_within 21 = .ok (.bipush (-2), 2) := by decide +kernel
theorem dX10_within_23 : decode cX10_within 23 = .ok (.invokevirtual 120, 3) := by decide +kernel
theorem dX10_within_26 : decode cX10_within 26 = .ok (.ireturn, 1) := by decide +kernel
theorem dX10_within_27 : decode cX10_within 27 = .ok (.aload_n 0, 1) := by decide +kernel
theorem dX10_within_28 : decode cX10_within 28 = .ok (.getfield 17, 3) := by decide +kernel
theorem dX10_within_31 : decode cX10_within 31 = .ok (.invokevirtual 104, 3) := by decide +kernel
theorem dX10_within_34 : decode cX10_within 34 = .ok (.istore_n 3, 1) := by decide +kernel
theorem dX10_within_35 : decode cX10_within 35 = .ok (.aload_n 0, 1) := by decide +kernel
theorem dX10_within_36 : decode cX10_within 36 = .ok (.getfield 21, 3) := by decide +kernel
theorem dX10_within_39 : decode cX10_within 39 = .ok (.iload_n 3, 1) := by decide +kernel
theorem dX10_within_40 : decode cX10_within 40 = .ok (.iconst 1, 1) := by decide +kernel
theorem dX10_within_41 : decode cX10_within 41 = .ok (.iload_n 1, 1) := by decide +kernel
theorem dX10_within_42 : decode cX10_within 42 = .ok (.ishl, 1) := by decide +kernel
theorem dX10_within_43 : decode cX10_within 43 = .ok (.ixor, 1) := by decide +kernel
theorem dX10_within_44 : decode cX10_within 44 = .ok (.iload_n 2, 1) := by decide +kernel
theorem dX10_within_45 : decode cX10_within 45 = .ok (.invokevirtual 162, 3) := by decide +kernel
theorem dX10_within_48 : decode cX10_within 48 = .ok (.aload_n 0, 1) := by decide +kernel
theorem dX10_within_49 : decode cX10_within 49 = .ok (.getfield 21, 3) := by decide +kernel
theorem dX10_within_52 : decode cX10_within 52 = .ok (.iload_n 3, 1) := by decide +kernel
theorem dX10_within_53 : decode cX10_within 53 = .ok (.iload_n 2, 1) := by decide +kernel
theorem dX10_within_54 : decode cX10_within 54 = .ok (.invokevirtual 162, 3) := by decide +kernel
theorem dX10_within_57 : decode cX10_within 57 = .ok (.isub, 1) := by decide +kernel
theorem dX10_within_58 : decode cX10_within 58 = .ok (.sipush 1000, 3) := by decide +kernel
theorem dX10_within_61 : decode cX10_within 61 = .ok (.iadd, 1) := by decide +kernel
theorem dX10_within_62 : decode cX10_within 62 = .ok (.ireturn, 1) := by decide +kernel
theorem dX10_parts_0 : decode cX10_parts 0 = .ok (.iload_n 1, 1) := by decide +kernel
theorem dX10_parts_1 : decode cX10_parts 1 = .ok (.iconst (-1), 1) := by decide +kernel
theorem dX10_parts_2 : decode cX10_parts 2 = .ok (.if_icmp .ge 10, 3) := by decide +kernel
theorem dX10_parts_5 : decode cX10_parts 5 = .ok (.aload_n 0, 1) := by decide +kernel
theorem dX10_parts_6 : decode cX10_parts 6 = .ok (.bipush (-2), 2) := by decide +kernel
theorem dX10_parts_8 : decode cX10_parts 8 = .ok (.invokevirtual 120, 3) := by decide +kernel
theorem dX10_parts_11 : decode cX10_parts 11 = .ok (.ireturn, 1) := by decide +kernel
theorem dX10_parts_12 : decode cX10_parts 12 = .ok (.iload_n 1, 1) := by decide +kernel
theorem dX10_parts_13 : decode cX10_parts 13 = .ok (.iconst (-1), 1) := by decide +kernel
theorem dX10_parts_14 : decode cX10_parts 14 = .ok (.if_icmp .ne 13, 3) := by decide +kernel
theorem dX10_parts_17 : decode cX10_parts 17 = .ok (.aload_n 0, 1) := by decide +kernel
theorem dX10_parts_18 : decode cX10_parts 18 = .ok (.getfield 21, 3) := by decide +kernel
theorem dX10_parts_21 : decode cX10_parts 21 = .ok (.invokevirtual 93, 3) := by decide +kernel
theorem dX10_parts_24 : decode cX10_parts 24 = .ok (.goto 14, 3) := by decide +kernel
theorem dX10_parts_27 : decode cX10_parts 27 = .ok (.aload_n 0, 1) := by decide +kernel
theorem dX10_parts_28 : decode cX10_parts 28 = .ok (.getfield 40, 3) := by decide +kernel
theorem dX10_parts_31 : decode cX10_parts 31 = .ok (.invokevirtual 169, 3) := by decide +kernel
theorem dX10_parts_34 : decode cX10_parts 34 = .ok (.iload_n 1, 1) := by decide +kernel
theorem dX10_parts_35 : decode cX10_parts 35 = .ok (.invokevirtual 136, 3) := by decide +kernel
theorem dX10_parts_38 : decode cX10_parts 38 = .ok (.ireturn, 1) := by decide +kernel
theorem dX10_walls_0 : decode cX10_walls 0 = .ok (.aload_n 0, 1) := by decide +kernel
theorem dX10_walls_1 : decode cX10_walls 1 = .ok (.getfield 17, 3) := by decide +kernel
theorem dX10_walls_4 : decode cX10_walls 4 = .ok (.iload_n 1, 1) := by decide +kernel
theorem dX10_walls_5 : decode cX10_walls 5 = .ok (.invokevirtual 126, 3) := by decide +kernel
theorem dX10_walls_8 : decode cX10_walls 8 = .ok (.ifCond .ne 10, 3) := by decide +kernel
theorem dX10_walls_11 : decode cX10_walls 11 = .ok (.aload_n 0, 1) := by decide +kernel
theorem dX10_walls_12 : decode cX10_walls 12 = .ok (.bipush (-2), 2) := by decide +kernel
theorem dX10_walls_14 : decode cX10_walls 14 = .ok (.invokevirtual 120, 3) := by decide +kernel
theorem dX10_walls_17 : decode cX10_walls 17 = .ok (.ireturn, 1) := by decide +kernel
theorem dX10_walls_18 : decode cX10_walls 18 = .ok (.aload_n 0, 1) := by decide +kernel
theorem dX10_walls_19 : decode cX10_walls 19 = .ok (.getfield 40, 3) := by decide +kernel
theorem dX10_walls_22 : decode cX10_walls 22 = .ok (.iload_n 1, 1) := by decide +kernel
theorem dX10_walls_23 : decode cX10_walls 23 = .ok (.invokevirtual 172, 3) := by decide +kernel
theorem dX10_walls_26 : decode cX10_walls 26 = .ok (.ifCond .eq 14, 3) := by decide +kernel
theorem dX10_walls_29 : decode cX10_walls 29 = .ok (.aload_n 0, 1) := by decide +kernel
theorem dX10_walls_30 : decode cX10_walls 30 = .ok (.getfield 40, 3) := by decide +kernel
theorem dX10_walls_33 : decode cX10_walls 33 = .ok (.iload_n 1, 1) := by decide +kernel
theorem dX10_walls_34 : decode cX10_walls 34 = .ok (.invokevirtual 175, 3) := by decide +kernel
theorem dX10_walls_37 : decode cX10_walls 37 = .ok (.goto 9, 3) := by decide +kernel
theorem dX10_walls_40 : decode cX10_walls 40 = .ok (.aload_n 0, 1) := by decide +kernel
theorem dX10_walls_41 : decode cX10_walls 41 = .ok (.bipush (-3), 2) := by decide +kernel
theorem dX10_walls_43 : decode cX10_walls 43 = .ok (.invokevirtual 120, 3) := by decide +kernel
theorem dX10_walls_46 : decode cX10_walls 46 = .ok (.ireturn, 1) := by decide +kernel
theorem dX10_way_0 : decode cX10_way 0 = .ok (.aload_n 0, 1) := by decide +kernel
theorem dX10_way_1 : decode cX10_way 1 = .ok (.getfield 17, 3) := by decide +kernel
theorem dX10_way_4 : decode cX10_way 4 = .ok (.iload_n 1, 1) := by decide +kernel
theorem dX10_way_5 : decode cX10_way 5 = .ok (.invokevirtual 126, 3) := by decide +kernel
theorem dX10_way_8 : decode cX10_way 8 = .ok (.ifCond .eq 23, 3) := by decide +kernel
theorem dX10_way_11 : decode cX10_way 11 = .ok (.aload_n 0, 1) := by decide +kernel
theorem dX10_way_12 : decode cX10_way 12 = .ok (.getfield 17, 3) := by decide +kernel
theorem dX10_way_15 : decode cX10_way 15 = .ok (.iload_n 2, 1) := by decide +kernel
theorem dX10_way_16 : decode cX10_way 16 = .ok (.invokevirtual 126, 3) := by decide +kernel
theorem dX10_way_19 : decode cX10_way 19 = .ok (.ifCond .eq 12, 3) := by decide +kernel
theorem dX10_way_22 : decode cX10_way 22 = .ok (.iload_n 3, 1) := by decide +kernel
theorem dX10_way_23 : decode cX10_way 23 = .ok (.ifCond .lt 8, 3) := by decide +kernel
theorem dX10_way_26 : decode cX10_way 26 = .ok (.iload_n 3, 1) := by decide +kernel
theorem dX10_way_27 : decode cX10_way 27 = .ok (.iconst 1, 1) := by decide +kernel
theorem dX10_way_28 : decode cX10_way 28 = .ok (.if_icmp .le 10, 3) := by decide +kernel
theorem dX10_way_31 : decode cX10_way 31 = .ok (.aload_n 0, 1) := by decide +kernel
theorem dX10_way_32 : decode cX10_way 32 = .ok (.bipush (-2), 2) := by decide +kernel
theorem dX10_way_34 : decode cX10_way 34 = .ok (.invokevirtual 120, 3) := by decide +kernel
theorem dX10_way_37 : decode cX10_way 37 = .ok (.ireturn, 1) := by decide +kernel
theorem dX10_way_38 : decode cX10_way 38 = .ok (.aload_n 0, 1) := by decide +kernel
theorem dX10_way_39 : decode cX10_way 39 = .ok (.getfield 40, 3) := by decide +kernel
theorem dX10_way_42 : decode cX10_way 42 = .ok (.iload_n 1, 1) := by decide +kernel
theorem dX10_way_43 : decode cX10_way 43 = .ok (.invokevirtual 172, 3) := by decide +kernel
theorem dX10_way_46 : decode cX10_way 46 = .ok (.ifCond .eq 14, 3) := by decide +kernel
theorem dX10_way_49 : decode cX10_way 49 = .ok (.aload_n 0, 1) := by decide +kernel
theorem dX10_way_50 : decode cX10_way 50 = .ok (.getfield 40, 3) := by decide +kernel
theorem dX10_way_53 : decode cX10_way 53 = .ok (.iload_n 2, 1) := by decide +kernel
theorem dX10_way_54 : decode cX10_way 54 = .ok (.invokevirtual 172, 3) := by decide +kernel
theorem dX10_way_57 : decode cX10_way 57 = .ok (.ifCond .ne 10, 3) := by decide +kernel
theorem dX10_way_60 : decode cX10_way 60 = .ok (.aload_n 0, 1) := by decide +kernel
theorem dX10_way_61 : decode cX10_way 61 = .ok (.bipush (-3), 2) := by decide +kernel
theorem dX10_way_63 : decode cX10_way 63 = .ok (.invokevirtual 120, 3) := by decide +kernel
theorem dX10_way_66 : decode cX10_way 66 = .ok (.ireturn, 1) := by decide +kernel
theorem dX10_way_67 : decode cX10_way 67 = .ok (.iload_n 3, 1) := by decide +kernel
theorem dX10_way_68 : decode cX10_way 68 = .ok (.ifCond .ne 12, 3) := by decide +kernel
theorem dX10_way_71 : decode cX10_way 71 = .ok (.iload_n 1, 1) := by decide +kernel
theorem dX10_way_72 : decode cX10_way 72 = .ok (.iload_n 2, 1) := by decide +kernel
theorem dX10_way_73 : decode cX10_way 73 = .ok (.ixor, 1) := by decide +kernel
theorem dX10_way_74 : decode cX10_way 74 = .ok (.invokestatic 178, 3) := by decide +kernel
theorem dX10_way_77 : decode cX10_way 77 = .ok (.goto 12, 3) := by decide +kernel
theorem dX10_way_80 : decode cX10_way 80 = .ok (.aload_n 0, 1) := by decide +kernel
theorem dX10_way_81 : decode cX10_way 81 = .ok (.getfield 40, 3) := by decide +kernel
theorem dX10_way_84 : decode cX10_way 84 = .ok (.iload_n 1, 1) := by decide +kernel
theorem dX10_way_85 : decode cX10_way 85 = .ok (.iload_n 2, 1) := by decide +kernel
theorem dX10_way_86 : decode cX10_way 86 = .ok (.invokevirtual 183, 3) := by decide +kernel
theorem dX10_way_89 : decode cX10_way 89 = .ok (.ireturn, 1) := by decide +kernel
theorem dX10_chain_0 : decode cX10_chain 0 = .ok (.iload_n 1, 1) := by decide +kernel
theorem dX10_chain_1 : decode cX10_chain 1 = .ok (.ifCond .lt 12, 3) := by decide +kernel
theorem dX10_chain_4 : decode cX10_chain 4 = .ok (.iload_n 2, 1) := by decide +kernel
theorem dX10_chain_5 : decode cX10_chain 5 = .ok (.ifCond .lt 8, 3) := by decide +kernel
theorem dX10_chain_8 : decode cX10_chain 8 = .ok (.iload_n 2, 1) := by decide +kernel
theorem dX10_chain_9 : decode cX10_chain 9 = .ok (.iconst 1, 1) := by decide +kernel
theorem dX10_chain_10 : decode cX10_chain 10 = .ok (.if_icmp .le 10, 3) := by decide +kernel
theorem dX10_chain_13 : decode cX10_chain 13 = .ok (.aload_n 0, 1) := by decide +kernel
theorem dX10_chain_14 : decode cX10_chain 14 = .ok (.bipush (-2), 2) := by decide +kernel
theorem dX10_chain_16 : decode cX10_chain 16 = .ok (.invokevirtual 120, 3) := by decide +kernel
theorem dX10_chain_19 : decode cX10_chain 19 = .ok (.ireturn, 1) := by decide +kernel
theorem dX10_chain_20 : decode cX10_chain 20 = .ok (.aload_n 0, 1) := by decide +kernel
theorem dX10_chain_21 : decode cX10_chain 21 = .ok (.getfield 47, 3) := by decide +kernel
theorem dX10_chain_24 : decode cX10_chain 24 = .ok (.invokevirtual 186, 3) := by decide +kernel
theorem dX10_chain_27 : decode cX10_chain 27 = .ok (.ifCond .ne 10, 3) := by decide +kernel
theorem dX10_chain_30 : decode cX10_chain 30 = .ok (.aload_n 0, 1) := by decide +kernel
theorem dX10_chain_31 : decode cX10_chain 31 = .ok (.bipush (-3), 2) := by decide +kernel
theorem dX10_chain_33 : decode cX10_chain 33 = .ok (.invokevirtual 120, 3) := by decide +kernel
theorem dX10_chain_36 : decode cX10_chain 36 = .ok (.ireturn, 1) := by decide +kernel
theorem dX10_chain_37 : decode cX10_chain 37 = .ok (.aload_n 0, 1) := by decide +kernel
theorem dX10_chain_38 : decode cX10_chain 38 = .ok (.getfield 21, 3) := by decide +kernel
theorem dX10_chain_41 : decode cX10_chain 41 = .ok (.aload_n 0, 1) := by decide +kernel
theorem dX10_chain_42 : decode cX10_chain 42 = .ok (.getfield 17, 3) := by decide +kernel
theorem dX10_chain_45 : decode cX10_chain 45 = .ok (.invokevirtual 104, 3) := by decide +kernel
theorem dX10_chain_48 : decode cX10_chain 48 = .ok (.invokevirtual 107, 3) := by decide +kernel
theorem dX10_chain_51 : decode cX10_chain 51 = .ok (.istore_n 3, 1) := by decide +kernel
theorem dX10_chain_52 : decode cX10_chain 52 = .ok (.iload_n 1, 1) := by decide +kernel
theorem dX10_chain_53 : decode cX10_chain 53 = .ok (.ifCond .ne 5, 3) := by decide +kernel
theorem dX10_chain_56 : decode cX10_chain 56 = .ok (.iload_n 3, 1) := by decide +kernel
theorem dX10_chain_57 : decode cX10_chain 57 = .ok (.ireturn, 1) := by decide +kernel
theorem dX10_chain_58 : decode cX10_chain 58 = .ok (.iload_n 1, 1) := by decide +kernel
theorem dX10_chain_59 : decode cX10_chain 59 = .ok (.iload_n 3, 1) := by decide +kernel
theorem dX10_chain_60 : decode cX10_chain 60 = .ok (.if_icmp .le 6, 3) := by decide +kernel
theorem dX10_chain_63 : decode cX10_chain 63 = .ok (.bipush (-5), 2) := by decide +kernel
theorem dX10_chain_65 : decode cX10_chain 65 = .ok (.ireturn, 1) := by decide +kernel
theorem dX10_chain_66 : decode cX10_chain 66 = .ok (.iload_n 2, 1) := by decide +kernel
theorem dX10_chain_67 : decode cX10_chain 67 = .ok (.ifCond .ne 14, 3) := by decide +kernel
theorem dX10_chain_70 : decode cX10_chain 70 = .ok (.aload_n 0, 1) := by decide +kernel
theorem dX10_chain_71 : decode cX10_chain 71 = .ok (.getfield 47, 3) := by decide +kernel
theorem dX10_chain_74 : decode cX10_chain 74 = .ok (.iload_n 1, 1) := by decide +kernel
theorem dX10_chain_75 : decode cX10_chain 75 = .ok (.invokevirtual 190, 3) := by decide +kernel
theorem dX10_chain_78 : decode cX10_chain 78 = .ok (.goto 11, 3) := by decide +kernel
theorem dX10_chain_81 : decode cX10_chain 81 = .ok (.aload_n 0, 1) := by decide +kernel
theorem dX10_chain_82 : decode cX10_chain 82 = .ok (.getfield 47, 3) := by decide +kernel
theorem dX10_chain_85 : decode cX10_chain 85 = .ok (.iload_n 1, 1) := by decide +kernel
theorem dX10_chain_86 : decode cX10_chain 86 = .ok (.invokevirtual 193, 3) := by decide +kernel
theorem dX10_chain_89 : decode cX10_chain 89 = .ok (.ireturn, 1) := by decide +kernel
theorem dX10_even_0 : decode cX10_even 0 = .ok (.iload_n 1, 1) := by decide +kernel
theorem dX10_even_1 : decode cX10_even 1 = .ok (.ifCond .lt 8, 3) := by decide +kernel
theorem dX10_even_4 : decode cX10_even 4 = .ok (.iload_n 1, 1) := by decide +kernel
theorem dX10_even_5 : decode cX10_even 5 = .ok (.iconst 4, 1) := by decide +kernel
theorem dX10_even_6 : decode cX10_even 6 = .ok (.if_icmp .le 12, 3) := by decide +kernel
theorem dX10_even_9 : decode cX10_even 9 = .ok (.aload_n 0, 1) := by decide +kernel
theorem dX10_even_10 : decode cX10_even 10 = .ok (.bipush (-2), 2) := by decide +kernel
theorem dX10_even_12 : decode cX10_even 12 = .ok (.invokevirtual 120, 3) := by decide +kernel
theorem dX10_even_15 : decode cX10_even 15 = .ok (.goto 11, 3) := by decide +kernel
theorem dX10_even_18 : decode cX10_even 18 = .ok (.aload_n 0, 1) := by decide +kernel
theorem dX10_even_19 : decode cX10_even 19 = .ok (.getfield 47, 3) := by decide +kernel
theorem dX10_even_22 : decode cX10_even 22 = .ok (.iload_n 1, 1) := by decide +kernel
theorem dX10_even_23 : decode cX10_even 23 = .ok (.invokevirtual 196, 3) := by decide +kernel
theorem dX10_even_26 : decode cX10_even 26 = .ok (.ireturn, 1) := by decide +kernel
theorem dX10_places_0 : decode cX10_places 0 = .ok (.iload_n 1, 1) := by decide +kernel
theorem dX10_places_1 : decode cX10_places 1 = .ok (.iconst 2, 1) := by decide +kernel
theorem dX10_places_2 : decode cX10_places 2 = .ok (.if_icmp .eq 19, 3) := by decide +kernel
theorem dX10_places_5 : decode cX10_places 5 = .ok (.iload_n 1, 1) := by decide +kernel
theorem dX10_places_6 : decode cX10_places 6 = .ok (.iconst 3, 1) := by decide +kernel
theorem dX10_places_7 : decode cX10_places 7 = .ok (.if_icmp .eq 14, 3) := by decide +kernel
theorem dX10_places_10 : decode cX10_places 10 = .ok (.iload_n 1, 1) := by decide +kernel
theorem dX10_places_11 : decode cX10_places 11 = .ok (.iconst 5, 1) := by decide +kernel
theorem dX10_places_12 : decode cX10_places 12 = .ok (.if_icmp .eq 9, 3) := by decide +kernel
theorem dX10_places_15 : decode cX10_places 15 = .ok (.iload_n 1, 1) := by decide +kernel
theorem dX10_places_16 : decode cX10_places 16 = .ok (.bipush 7, 2) := by decide +kernel
theorem dX10_places_18 : decode cX10_places 18 = .ok (.if_icmp .ne 7, 3) := by decide +kernel
theorem dX10_places_21 : decode cX10_places 21 = .ok (.iconst 1, 1) := by decide +kernel
theorem dX10_places_22 : decode cX10_places 22 = .ok (.goto 4, 3) := by decide +kernel
theorem dX10_places_25 : decode cX10_places 25 = .ok (.iconst 0, 1) := by decide +kernel
theorem dX10_places_26 : decode cX10_places 26 = .ok (.istore_n 3, 1) := by decide +kernel
theorem dX10_places_27 : decode cX10_places 27 = .ok (.iload_n 3, 1) := by decide +kernel
theorem dX10_places_28 : decode cX10_places 28 = .ok (.ifCond .eq 12, 3) := by decide +kernel
theorem dX10_places_31 : decode cX10_places 31 = .ok (.iload_n 2, 1) := by decide +kernel
theorem dX10_places_32 : decode cX10_places 32 = .ok (.ifCond .lt 8, 3) := by decide +kernel
theorem dX10_places_35 : decode cX10_places 35 = .ok (.iload_n 2, 1) := by decide +kernel
theorem dX10_places_36 : decode cX10_places 36 = .ok (.iconst 1, 1) := by decide +kernel
theorem dX10_places_37 : decode cX10_places 37 = .ok (.if_icmp .le 10, 3) := by decide +kernel
theorem dX10_places_40 : decode cX10_places 40 = .ok (.aload_n 0, 1) := by decide +kernel
theorem dX10_places_41 : decode cX10_places 41 = .ok (.bipush (-2), 2) := by decide +kernel
theorem dX10_places_43 : decode cX10_places 43 = .ok (.invokevirtual 120, 3) := by decide +kernel
theorem dX10_places_46 : decode cX10_places 46 = .ok (.ireturn, 1) := by decide +kernel
theorem dX10_places_47 : decode cX10_places 47 = .ok (.iload_n 2, 1) := by decide +kernel
theorem dX10_places_48 : decode cX10_places 48 = .ok (.ifCond .ne 12, 3) := by decide +kernel
theorem dX10_places_51 : decode cX10_places 51 = .ok (.aload_n 0, 1) := by decide +kernel
theorem dX10_places_52 : decode cX10_places 52 = .ok (.getfield 54, 3) := by decide +kernel
theorem dX10_places_55 : decode cX10_places 55 = .ok (.iload_n 1, 1) := by decide +kernel
theorem dX10_places_56 : decode cX10_places 56 = .ok (.invokevirtual 199, 3) := by decide +kernel
theorem dX10_places_59 : decode cX10_places 59 = .ok (.ireturn, 1) := by decide +kernel
theorem dX10_places_60 : decode cX10_places 60 = .ok (.aload_n 0, 1) := by decide +kernel
theorem dX10_places_61 : decode cX10_places 61 = .ok (.getfield 54, 3) := by decide +kernel
theorem dX10_places_64 : decode cX10_places 64 = .ok (.iload_n 1, 1) := by decide +kernel
theorem dX10_places_65 : decode cX10_places 65 = .ok (.invokevirtual 202, 3) := by decide +kernel
theorem dX10_places_68 : decode cX10_places 68 = .ok (.ifCond .eq 7, 3) := by decide +kernel
theorem dX10_places_71 : decode cX10_places 71 = .ok (.iconst 1, 1) := by decide +kernel
theorem dX10_places_72 : decode cX10_places 72 = .ok (.goto 4, 3) := by decide +kernel
theorem dX10_places_75 : decode cX10_places 75 = .ok (.iconst 0, 1) := by decide +kernel
theorem dX10_places_76 : decode cX10_places 76 = .ok (.ireturn, 1) := by decide +kernel
theorem dX10_base_0 : decode cX10_base 0 = .ok (.iload_n 1, 1) := by decide +kernel
theorem dX10_base_1 : decode cX10_base 1 = .ok (.ifCond .lt 13, 3) := by decide +kernel
theorem dX10_base_4 : decode cX10_base 4 = .ok (.iload_n 1, 1) := by decide +kernel
theorem dX10_base_5 : decode cX10_base 5 = .ok (.iconst 4, 1) := by decide +kernel
theorem dX10_base_6 : decode cX10_base 6 = .ok (.if_icmp .gt 8, 3) := by decide +kernel
theorem dX10_base_9 : decode cX10_base 9 = .ok (.iload_n 2, 1) := by decide +kernel
theorem dX10_base_10 : decode cX10_base 10 = .ok (.iconst (-1), 1) := by decide +kernel
theorem dX10_base_11 : decode cX10_base 11 = .ok (.if_icmp .ge 10, 3) := by decide +kernel
theorem dX10_base_14 : decode cX10_base 14 = .ok (.aload_n 0, 1) := by decide +kernel
theorem dX10_base_15 : decode cX10_base 15 = .ok (.bipush (-2), 2) := by decide +kernel
theorem dX10_base_17 : decode cX10_base 17 = .ok (.invokevirtual 120, 3) := by decide +kernel
theorem dX10_base_20 : decode cX10_base 20 = .ok (.ireturn, 1) := by decide +kernel
theorem dX10_base_21 : decode cX10_base 21 = .ok (.aload_n 0, 1) := by decide +kernel
theorem dX10_base_22 : decode cX10_base 22 = .ok (.getfield 61, 3) := by decide +kernel
theorem dX10_base_25 : decode cX10_base 25 = .ok (.iload_n 1, 1) := by decide +kernel
theorem dX10_base_26 : decode cX10_base 26 = .ok (.invokevirtual 205, 3) := by decide +kernel
theorem dX10_base_29 : decode cX10_base 29 = .ok (.iload_n 2, 1) := by decide +kernel
theorem dX10_base_30 : decode cX10_base 30 = .ok (.invokevirtual 136, 3) := by decide +kernel
theorem dX10_base_33 : decode cX10_base 33 = .ok (.ireturn, 1) := by decide +kernel
theorem dX10_form_0 : decode cX10_form 0 = .ok (.aload_n 0, 1) := by decide +kernel
theorem dX10_form_1 : decode cX10_form 1 = .ok (.getfield 17, 3) := by decide +kernel
theorem dX10_form_4 : decode cX10_form 4 = .ok (.iload_n 1, 1) := by decide +kernel
theorem dX10_form_5 : decode cX10_form 5 = .ok (.invokevirtual 126, 3) := by decide +kernel
theorem dX10_form_8 : decode cX10_form 8 = .ok (.ifCond .eq 15, 3) := by decide +kernel
theorem dX10_form_11 : decode cX10_form 11 = .ok (.iload_n 1, 1) := by decide +kernel
theorem dX10_form_12 : decode cX10_form 12 = .ok (.invokestatic 178, 3) := by decide +kernel
theorem dX10_form_15 : decode cX10_form 15 = .ok (.iconst 4, 1) := by decide +kernel
theorem dX10_form_16 : decode cX10_form 16 = .ok (.if_icmp .gt 7, 3) := by decide +kernel
theorem dX10_form_19 : decode cX10_form 19 = .ok (.iload_n 2, 1) := by decide +kernel
theorem dX10_form_20 : decode cX10_form 20 = .ok (.ifCond .ge 10, 3) := by decide +kernel
theorem dX10_form_23 : decode cX10_form 23 = .ok (.aload_n 0, 1) := by decide +kernel
theorem dX10_form_24 : decode cX10_form 24 = .ok (.bipush (-2), 2) := by decide +kernel
theorem dX10_form_26 : decode cX10_form 26 = .ok (.invokevirtual 120, 3) := by decide +kernel
theorem dX10_form_29 : decode cX10_form 29 = .ok (.ireturn, 1) := by decide +kernel
theorem dX10_form_30 : decode cX10_form 30 = .ok (.aload_n 0, 1) := by decide +kernel
theorem dX10_form_31 : decode cX10_form 31 = .ok (.getfield 61, 3) := by decide +kernel
theorem dX10_form_34 : decode cX10_form 34 = .ok (.iload_n 1, 1) := by decide +kernel
theorem dX10_form_35 : decode cX10_form 35 = .ok (.invokestatic 178, 3) := by decide +kernel
theorem dX10_form_38 : decode cX10_form 38 = .ok (.invokevirtual 205, 3) := by decide +kernel
theorem dX10_form_41 : decode cX10_form 41 = .ok (.astore_n 3, 1) := by decide +kernel
theorem dX10_form_42 : decode cX10_form 42 = .ok (.iload_n 2, 1) := by decide +kernel
theorem dX10_form_43 : decode cX10_form 43 = .ok (.aload_n 3, 1) := by decide +kernel
theorem dX10_form_44 : decode cX10_form 44 = .ok (.getfield 151, 3) := by decide +kernel
theorem dX10_form_47 : decode cX10_form 47 = .ok (.if_icmp .lt 10, 3) := by decide +kernel
theorem dX10_form_50 : decode cX10_form 50 = .ok (.aload_n 0, 1) := by decide +kernel
theorem dX10_form_51 : decode cX10_form 51 = .ok (.bipush (-3), 2) := by decide +kernel
theorem dX10_form_53 : decode cX10_form 53 = .ok (.invokevirtual 120, 3) := by decide +kernel
theorem dX10_form_56 : decode cX10_form 56 = .ok (.ireturn, 1) := by decide +kernel
theorem dX10_form_57 : decode cX10_form 57 = .ok (.aload_n 0, 1) := by decide +kernel
theorem dX10_form_58 : decode cX10_form 58 = .ok (.getfield 61, 3) := by decide +kernel
theorem dX10_form_61 : decode cX10_form 61 = .ok (.iload_n 1, 1) := by decide +kernel
theorem dX10_form_62 : decode cX10_form 62 = .ok (.aload_n 3, 1) := by decide +kernel
theorem dX10_form_63 : decode cX10_form 63 = .ok (.getfield 154, 3) := by decide +kernel
theorem dX10_form_66 : decode cX10_form 66 = .ok (.iload_n 2, 1) := by decide +kernel
theorem dX10_form_67 : decode cX10_form 67 = .ok (.iaload, 1) := by decide +kernel
theorem dX10_form_68 : decode cX10_form 68 = .ok (.invokevirtual 208, 3) := by decide +kernel
theorem dX10_form_71 : decode cX10_form 71 = .ok (.sipush 1000, 3) := by decide +kernel
theorem dX10_form_74 : decode cX10_form 74 = .ok (.iadd, 1) := by decide +kernel
theorem dX10_form_75 : decode cX10_form 75 = .ok (.ireturn, 1) := by decide +kernel
theorem dX10_type_0 : decode cX10_type 0 = .ok (.iload_n 1, 1) := by decide +kernel
theorem dX10_type_1 : decode cX10_type 1 = .ok (.ifCond .lt 9, 3) := by decide +kernel
theorem dX10_type_4 : decode cX10_type 4 = .ok (.iload_n 1, 1) := by decide +kernel
theorem dX10_type_5 : decode cX10_type 5 = .ok (.bipush 127, 2) := by decide +kernel
theorem dX10_type_7 : decode cX10_type 7 = .ok (.if_icmp .le 10, 3) := by decide +kernel
theorem dX10_type_10 : decode cX10_type 10 = .ok (.aload_n 0, 1) := by decide +kernel
theorem dX10_type_11 : decode cX10_type 11 = .ok (.bipush (-2), 2) := by decide +kernel
theorem dX10_type_13 : decode cX10_type 13 = .ok (.invokevirtual 120, 3) := by decide +kernel
theorem dX10_type_16 : decode cX10_type 16 = .ok (.ireturn, 1) := by decide +kernel
theorem dX10_type_17 : decode cX10_type 17 = .ok (.aload_n 0, 1) := by decide +kernel
theorem dX10_type_18 : decode cX10_type 18 = .ok (.getfield 68, 3) := by decide +kernel
theorem dX10_type_21 : decode cX10_type 21 = .ok (.iload_n 1, 1) := by decide +kernel
theorem dX10_type_22 : decode cX10_type 22 = .ok (.invokevirtual 211, 3) := by decide +kernel
theorem dX10_type_25 : decode cX10_type 25 = .ok (.ifCond .eq 13, 3) := by decide +kernel
theorem dX10_type_28 : decode cX10_type 28 = .ok (.aload_n 0, 1) := by decide +kernel
theorem dX10_type_29 : decode cX10_type 29 = .ok (.getfield 68, 3) := by decide +kernel
theorem dX10_type_32 : decode cX10_type 32 = .ok (.getfield 214, 3) := by decide +kernel
theorem dX10_type_35 : decode cX10_type 35 = .ok (.goto 9, 3) := by decide +kernel
theorem dX10_type_38 : decode cX10_type 38 = .ok (.aload_n 0, 1) := by decide +kernel
theorem dX10_type_39 : decode cX10_type 39 = .ok (.bipush (-4), 2) := by decide +kernel
theorem dX10_type_41 : decode cX10_type 41 = .ok (.invokevirtual 120, 3) := by decide +kernel
theorem dX10_type_44 : decode cX10_type 44 = .ok (.ireturn, 1) := by decide +kernel
theorem dX10_clear_0 : decode cX10_clear 0 = .ok (.aload_n 0, 1) := by decide +kernel
theorem dX10_clear_1 : decode cX10_clear 1 = .ok (.getfield 68, 3) := by decide +kernel
theorem dX10_clear_4 : decode cX10_clear 4 = .ok (.getfield 214, 3) := by decide +kernel
theorem dX10_clear_7 : decode cX10_clear 7 = .ok (.istore_n 1, 1) := by decide +kernel
theorem dX10_clear_8 : decode cX10_clear 8 = .ok (.aload_n 0, 1) := by decide +kernel
theorem dX10_clear_9 : decode cX10_clear 9 = .ok (.getfield 68, 3) := by decide +kernel
theorem dX10_clear_12 : decode cX10_clear 12 = .ok (.iconst 0, 1) := by decide +kernel
theorem dX10_clear_13 : decode cX10_clear 13 = .ok (.putfield 214, 3) := by decide +kernel
theorem dX10_clear_16 : decode cX10_clear 16 = .ok (.iload_n 1, 1) := by decide +kernel
theorem dX10_clear_17 : decode cX10_clear 17 = .ok (.ireturn, 1) := by decide +kernel
theorem dX10_reads_0 : decode cX10_reads 0 = .ok (.aload_n 0, 1) := by decide +kernel
theorem dX10_reads_1 : decode cX10_reads 1 = .ok (.getfield 68, 3) := by decide +kernel
theorem dX10_reads_4 : decode cX10_reads 4 = .ok (.aload_n 0, 1) := by decide +kernel
theorem dX10_reads_5 : decode cX10_reads 5 = .ok (.getfield 17, 3) := by decide +kernel
theorem dX10_reads_8 : decode cX10_reads 8 = .ok (.getfield 117, 3) := by decide +kernel
theorem dX10_reads_11 : decode cX10_reads 11 = .ok (.invokevirtual 217, 3) := by decide +kernel
theorem dX10_reads_14 : decode cX10_reads 14 = .ok (.istore_n 1, 1) := by decide +kernel
theorem dX10_reads_15 : decode cX10_reads 15 = .ok (.iload_n 1, 1) := by decide +kernel
theorem dX10_reads_16 : decode cX10_reads 16 = .ok (.iconst (-1), 1) := by decide +kernel
theorem dX10_reads_17 : decode cX10_reads 17 = .ok (.if_icmp .eq 8, 3) := by decide +kernel
theorem dX10_reads_20 : decode cX10_reads 20 = .ok (.bipush (-10), 2) := by decide +kernel
theorem dX10_reads_22 : decode cX10_reads 22 = .ok (.iload_n 1, 1) := by decide +kernel
theorem dX10_reads_23 : decode cX10_reads 23 = .ok (.isub, 1) := by decide +kernel
theorem dX10_reads_24 : decode cX10_reads 24 = .ok (.ireturn, 1) := by decide +kernel
theorem dX10_reads_25 : decode cX10_reads 25 = .ok (.aload_n 0, 1) := by decide +kernel
theorem dX10_reads_26 : decode cX10_reads 26 = .ok (.getfield 25, 3) := by decide +kernel
theorem dX10_reads_29 : decode cX10_reads 29 = .ok (.aload_n 0, 1) := by decide +kernel
theorem dX10_reads_30 : decode cX10_reads 30 = .ok (.getfield 17, 3) := by decide +kernel
theorem dX10_reads_33 : decode cX10_reads 33 = .ok (.invokevirtual 76, 3) := by decide +kernel
theorem dX10_reads_36 : decode cX10_reads 36 = .ok (.iconst 0, 1) := by decide +kernel
theorem dX10_reads_37 : decode cX10_reads 37 = .ok (.istore_n 2, 1) := by decide +kernel
theorem dX10_reads_38 : decode cX10_reads 38 = .ok (.iload_n 2, 1) := by decide +kernel
theorem dX10_reads_39 : decode cX10_reads 39 = .ok (.aload_n 0, 1) := by decide +kernel
theorem dX10_reads_40 : decode cX10_reads 40 = .ok (.getfield 68, 3) := by decide +kernel
theorem dX10_reads_43 : decode cX10_reads 43 = .ok (.getfield 220, 3) := by decide +kernel
theorem dX10_reads_46 : decode cX10_reads 46 = .ok (.if_icmp .ge 47, 3) := by decide +kernel
theorem dX10_reads_49 : decode cX10_reads 49 = .ok (.aload_n 0, 1) := by decide +kernel
theorem dX10_reads_50 : decode cX10_reads 50 = .ok (.iload_n 2, 1) := by decide +kernel
theorem dX10_reads_51 : decode cX10_reads 51 = .ok (.invokevirtual 223, 3) := by decide +kernel
theorem dX10_reads_54 : decode cX10_reads 54 = .ok (.istore_n 3, 1) := by decide +kernel
theorem dX10_reads_55 : decode cX10_reads 55 = .ok (.iload_n 3, 1) := by decide +kernel
theorem dX10_reads_56 : decode cX10_reads 56 = .ok (.ifCond .ge 31, 3) := by decide +kernel
theorem dX10_reads_59 : decode cX10_reads 59 = .ok (.aload_n 0, 1) := by decide +kernel
theorem dX10_reads_60 : decode cX10_reads 60 = .ok (.getfield 17, 3) := by decide +kernel
theorem dX10_reads_63 : decode cX10_reads 63 = .ok (.aload_n 0, 1) := by decide +kernel
theorem dX10_reads_64 : decode cX10_reads 64 = .ok (.getfield 25, 3) := by decide +kernel
theorem dX10_reads_67 : decode cX10_reads 67 = .ok (.invokevirtual 76, 3) := by decide +kernel
theorem dX10_reads_70 : decode cX10_reads 70 = .ok (.aload_n 0, 1) := by decide +kernel
theorem dX10_reads_71 : decode cX10_reads 71 = .ok (.iload_n 3, 1) := by decide +kernel
theorem dX10_reads_72 : decode cX10_reads 72 = .ok (.ineg, 1) := by decide +kernel
theorem dX10_reads_73 : decode cX10_reads 73 = .ok (.putfield 226, 3) := by decide +kernel
theorem dX10_reads_76 : decode cX10_reads 76 = .ok (.aload_n 0, 1) := by decide +kernel
theorem dX10_reads_77 : decode cX10_reads 77 = .ok (.iload_n 2, 1) := by decide +kernel
theorem dX10_reads_78 : decode cX10_reads 78 = .ok (.putfield 72, 3) := by decide +kernel
theorem dX10_reads_81 : decode cX10_reads 81 = .ok (.sipush (-1000), 3) := by decide +kernel
theorem dX10_reads_84 : decode cX10_reads 84 = .ok (.iload_n 2, 1) := by decide +kernel
theorem dX10_reads_85 : decode cX10_reads 85 = .ok (.isub, 1) := by decide +kernel
theorem dX10_reads_86 : decode cX10_reads 86 = .ok (.ireturn, 1) := by decide +kernel
theorem dX10_reads_87 : decode cX10_reads 87 = .ok (.iinc 2 1, 3) := by decide +kernel
theorem dX10_reads_90 : decode cX10_reads 90 = .ok (.goto (-52), 3) := by decide +kernel
theorem dX10_reads_93 : decode cX10_reads 93 = .ok (.aload_n 0, 1) := by decide +kernel
theorem dX10_reads_94 : decode cX10_reads 94 = .ok (.getfield 31, 3) := by decide +kernel
theorem dX10_reads_97 : decode cX10_reads 97 = .ok (.aload_n 0, 1) := by decide +kernel
theorem dX10_reads_98 : decode cX10_reads 98 = .ok (.getfield 25, 3) := by decide +kernel
theorem dX10_reads_101 : decode cX10_reads 101 = .ok (.invokevirtual 229, 3) := by decide +kernel
theorem dX10_reads_104 : decode cX10_reads 104 = .ok (.aload_n 0, 1) := by decide +kernel
theorem dX10_reads_105 : decode cX10_reads 105 = .ok (.getfield 68, 3) := by decide +kernel
theorem dX10_reads_108 : decode cX10_reads 108 = .ok (.getfield 220, 3) := by decide +kernel
theorem dX10_reads_111 : decode cX10_reads 111 = .ok (.ireturn, 1) := by decide +kernel
theorem dX10_why_0 : decode cX10_why 0 = .ok (.iload_n 1, 1) := by decide +kernel
theorem dX10_why_1 : decode cX10_why 1 = .ok (.ifCond .lt 8, 3) := by decide +kernel
theorem dX10_why_4 : decode cX10_why 4 = .ok (.iload_n 1, 1) := by decide +kernel
theorem dX10_why_5 : decode cX10_why 5 = .ok (.iconst 1, 1) := by decide +kernel
theorem dX10_why_6 : decode cX10_why 6 = .ok (.if_icmp .le 10, 3) := by decide +kernel
theorem dX10_why_9 : decode cX10_why 9 = .ok (.aload_n 0, 1) := by decide +kernel
theorem dX10_why_10 : decode cX10_why 10 = .ok (.bipush (-2), 2) := by decide +kernel
theorem dX10_why_12 : decode cX10_why 12 = .ok (.invokevirtual 120, 3) := by decide +kernel
theorem dX10_why_15 : decode cX10_why 15 = .ok (.ireturn, 1) := by decide +kernel
theorem dX10_why_16 : decode cX10_why 16 = .ok (.iload_n 1, 1) := by decide +kernel
theorem dX10_why_17 : decode cX10_why 17 = .ok (.ifCond .ne 10, 3) := by decide +kernel
theorem dX10_why_20 : decode cX10_why 20 = .ok (.aload_n 0, 1) := by decide +kernel
theorem dX10_why_21 : decode cX10_why 21 = .ok (.getfield 226, 3) := by decide +kernel
theorem dX10_why_24 : decode cX10_why 24 = .ok (.goto 7, 3) := by decide +kernel
theorem dX10_why_27 : decode cX10_why 27 = .ok (.aload_n 0, 1) := by decide +kernel
theorem dX10_why_28 : decode cX10_why 28 = .ok (.getfield 72, 3) := by decide +kernel
theorem dX10_why_31 : decode cX10_why 31 = .ok (.ireturn, 1) := by decide +kernel
theorem dX10_back_0 : decode cX10_back 0 = .ok (.aload_n 0, 1) := by decide +kernel
theorem dX10_back_1 : decode cX10_back 1 = .ok (.getfield 31, 3) := by decide +kernel
theorem dX10_back_4 : decode cX10_back 4 = .ok (.aload_n 0, 1) := by decide +kernel
theorem dX10_back_5 : decode cX10_back 5 = .ok (.getfield 17, 3) := by decide +kernel
theorem dX10_back_8 : decode cX10_back 8 = .ok (.invokevirtual 232, 3) := by decide +kernel
theorem dX10_back_11 : decode cX10_back 11 = .ok (.ifCond .eq 13, 3) := by decide +kernel
theorem dX10_back_14 : decode cX10_back 14 = .ok (.aload_n 0, 1) := by decide +kernel
theorem dX10_back_15 : decode cX10_back 15 = .ok (.getfield 31, 3) := by decide +kernel
theorem dX10_back_18 : decode cX10_back 18 = .ok (.getfield 236, 3) := by decide +kernel
theorem dX10_back_21 : decode cX10_back 21 = .ok (.goto 9, 3) := by decide +kernel
theorem dX10_back_24 : decode cX10_back 24 = .ok (.aload_n 0, 1) := by decide +kernel
theorem dX10_back_25 : decode cX10_back 25 = .ok (.bipush (-3), 2) := by decide +kernel
theorem dX10_back_27 : decode cX10_back 27 = .ok (.invokevirtual 120, 3) := by decide +kernel
theorem dX10_back_30 : decode cX10_back 30 = .ok (.ireturn, 1) := by decide +kernel
theorem dX10_told_0 : decode cX10_told 0 = .ok (.iload_n 1, 1) := by decide +kernel
theorem dX10_told_1 : decode cX10_told 1 = .ok (.tableswitch 109 0 7 #[47, 52, 57, 62, 70, 78, 86, 101], 47) := by decide +kernel
theorem dX10_told_48 : decode cX10_told 48 = .ok (.aload_n 0, 1) := by decide +kernel
theorem dX10_told_49 : decode cX10_told 49 = .ok (.getfield 237, 3) := by decide +kernel
theorem dX10_told_52 : decode cX10_told 52 = .ok (.ireturn, 1) := by decide +kernel
theorem dX10_told_53 : decode cX10_told 53 = .ok (.aload_n 0, 1) := by decide +kernel
theorem dX10_told_54 : decode cX10_told 54 = .ok (.getfield 240, 3) := by decide +kernel
theorem dX10_told_57 : decode cX10_told 57 = .ok (.ireturn, 1) := by decide +kernel
theorem dX10_told_58 : decode cX10_told 58 = .ok (.aload_n 0, 1) := by decide +kernel
theorem dX10_told_59 : decode cX10_told 59 = .ok (.getfield 243, 3) := by decide +kernel
theorem dX10_told_62 : decode cX10_told 62 = .ok (.ireturn, 1) := by decide +kernel
theorem dX10_told_63 : decode cX10_told 63 = .ok (.aload_n 0, 1) := by decide +kernel
theorem dX10_told_64 : decode cX10_told 64 = .ok (.getfield 68, 3) := by decide +kernel
theorem dX10_told_67 : decode cX10_told 67 = .ok (.getfield 214, 3) := by decide +kernel
theorem dX10_told_70 : decode cX10_told 70 = .ok (.ireturn, 1) := by decide +kernel
theorem dX10_told_71 : decode cX10_told 71 = .ok (.aload_n 0, 1) := by decide +kernel
theorem dX10_told_72 : decode cX10_told 72 = .ok (.getfield 17, 3) := by decide +kernel
theorem dX10_told_75 : decode cX10_told 75 = .ok (.getfield 117, 3) := by decide +kernel
theorem dX10_told_78 : decode cX10_told 78 = .ok (.ireturn, 1) := by decide +kernel
theorem dX10_told_79 : decode cX10_told 79 = .ok (.aload_n 0, 1) := by decide +kernel
theorem dX10_told_80 : decode cX10_told 80 = .ok (.getfield 17, 3) := by decide +kernel
theorem dX10_told_83 : decode cX10_told 83 = .ok (.getfield 246, 3) := by decide +kernel
theorem dX10_told_86 : decode cX10_told 86 = .ok (.ireturn, 1) := by decide +kernel
theorem dX10_told_87 : decode cX10_told 87 = .ok (.aload_n 0, 1) := by decide +kernel
theorem dX10_told_88 : decode cX10_told 88 = .ok (.getfield 21, 3) := by decide +kernel
theorem dX10_told_91 : decode cX10_told 91 = .ok (.aload_n 0, 1) := by decide +kernel
theorem dX10_told_92 : decode cX10_told 92 = .ok (.getfield 17, 3) := by decide +kernel
theorem dX10_told_95 : decode cX10_told 95 = .ok (.invokevirtual 104, 3) := by decide +kernel
theorem dX10_told_98 : decode cX10_told 98 = .ok (.invokevirtual 107, 3) := by decide +kernel
theorem dX10_told_101 : decode cX10_told 101 = .ok (.ireturn, 1) := by decide +kernel
theorem dX10_told_102 : decode cX10_told 102 = .ok (.aload_n 0, 1) := by decide +kernel
theorem dX10_told_103 : decode cX10_told 103 = .ok (.getfield 31, 3) := by decide +kernel
theorem dX10_told_106 : decode cX10_told 106 = .ok (.getfield 236, 3) := by decide +kernel
theorem dX10_told_109 : decode cX10_told 109 = .ok (.ireturn, 1) := by decide +kernel
theorem dX10_told_110 : decode cX10_told 110 = .ok (.aload_n 0, 1) := by decide +kernel
theorem dX10_told_111 : decode cX10_told 111 = .ok (.bipush (-2), 2) := by decide +kernel
theorem dX10_told_113 : decode cX10_told 113 = .ok (.invokevirtual 120, 3) := by decide +kernel
theorem dX10_told_116 : decode cX10_told 116 = .ok (.ireturn, 1) := by decide +kernel
theorem dX10_digest_0 : decode cX10_digest 0 = .ok (.ldc2_w 249, 3) := by decide +kernel
theorem dX10_digest_3 : decode cX10_digest 3 = .ok (.lstore_n 1, 1) := by decide +kernel
theorem dX10_digest_4 : decode cX10_digest 4 = .ok (.iconst 0, 1) := by decide +kernel
theorem dX10_digest_5 : decode cX10_digest 5 = .ok (.istore_n 3, 1) := by decide +kernel
theorem dX10_digest_6 : decode cX10_digest 6 = .ok (.iload_n 3, 1) := by decide +kernel
theorem dX10_digest_7 : decode cX10_digest 7 = .ok (.bipush 7, 2) := by decide +kernel
theorem dX10_digest_9 : decode cX10_digest 9 = .ok (.if_icmp .gt 20, 3) := by decide +kernel
theorem dX10_digest_12 : decode cX10_digest 12 = .ok (.lload_n 1, 1) := by decide +kernel
theorem dX10_digest_13 : decode cX10_digest 13 = .ok (.aload_n 0, 1) := by decide +kernel
theorem dX10_digest_14 : decode cX10_digest 14 = .ok (.iload_n 3, 1) := by decide +kernel
theorem dX10_digest_15 : decode cX10_digest 15 = .ok (.invokevirtual 251, 3) := by decide +kernel
theorem dX10_digest_18 : decode cX10_digest 18 = .ok (.i2l, 1) := by decide +kernel
theorem dX10_digest_19 : decode cX10_digest 19 = .ok (.invokestatic 254, 3) := by decide +kernel
theorem dX10_digest_22 : decode cX10_digest 22 = .ok (.lstore_n 1, 1) := by decide +kernel
theorem dX10_digest_23 : decode cX10_digest 23 = .ok (.iinc 3 1, 3) := by decide +kernel
theorem dX10_digest_26 : decode cX10_digest 26 = .ok (.goto (-20), 3) := by decide +kernel
theorem dX10_digest_29 : decode cX10_digest 29 = .ok (.lload_n 1, 1) := by decide +kernel
theorem dX10_digest_30 : decode cX10_digest 30 = .ok (.aload_n 0, 1) := by decide +kernel
theorem dX10_digest_31 : decode cX10_digest 31 = .ok (.iconst 0, 1) := by decide +kernel
theorem dX10_digest_32 : decode cX10_digest 32 = .ok (.invokevirtual 258, 3) := by decide +kernel
theorem dX10_digest_35 : decode cX10_digest 35 = .ok (.i2l, 1) := by decide +kernel
theorem dX10_digest_36 : decode cX10_digest 36 = .ok (.invokestatic 254, 3) := by decide +kernel
theorem dX10_digest_39 : decode cX10_digest 39 = .ok (.aload_n 0, 1) := by decide +kernel
theorem dX10_digest_40 : decode cX10_digest 40 = .ok (.iconst 1, 1) := by decide +kernel
theorem dX10_digest_41 : decode cX10_digest 41 = .ok (.invokevirtual 258, 3) := by decide +kernel
theorem dX10_digest_44 : decode cX10_digest 44 = .ok (.i2l, 1) := by decide +kernel
theorem dX10_digest_45 : decode cX10_digest 45 = .ok (.invokestatic 254, 3) := by decide +kernel
theorem dX10_digest_48 : decode cX10_digest 48 = .ok (.lstore_n 1, 1) := by decide +kernel
theorem dX10_digest_49 : decode cX10_digest 49 = .ok (.iconst 0, 1) := by decide +kernel
theorem dX10_digest_50 : decode cX10_digest 50 = .ok (.istore_n 3, 1) := by decide +kernel
theorem dX10_digest_51 : decode cX10_digest 51 = .ok (.iload_n 3, 1) := by decide +kernel
theorem dX10_digest_52 : decode cX10_digest 52 = .ok (.aload_n 0, 1) := by decide +kernel
theorem dX10_digest_53 : decode cX10_digest 53 = .ok (.getfield 17, 3) := by decide +kernel
theorem dX10_digest_56 : decode cX10_digest 56 = .ok (.getfield 246, 3) := by decide +kernel
theorem dX10_digest_59 : decode cX10_digest 59 = .ok (.if_icmp .ge 43, 3) := by decide +kernel
theorem dX10_digest_62 : decode cX10_digest 62 = .ok (.iconst 0, 1) := by decide +kernel
theorem dX10_digest_63 : decode cX10_digest 63 = .ok (.istore 4, 2) := by decide +kernel
theorem dX10_digest_65 : decode cX10_digest 65 = .ok (.iload 4, 2) := by decide +kernel
theorem dX10_digest_67 : decode cX10_digest 67 = .ok (.aload_n 0, 1) := by decide +kernel
theorem dX10_digest_68 : decode cX10_digest 68 = .ok (.getfield 17, 3) := by decide +kernel
theorem dX10_digest_71 : decode cX10_digest 71 = .ok (.getfield 117, 3) := by decide +kernel
theorem dX10_digest_74 : decode cX10_digest 74 = .ok (.if_icmp .ge 22, 3) := by decide +kernel
theorem dX10_digest_77 : decode cX10_digest 77 = .ok (.lload_n 1, 1) := by decide +kernel
theorem dX10_digest_78 : decode cX10_digest 78 = .ok (.aload_n 0, 1) := by decide +kernel
theorem dX10_digest_79 : decode cX10_digest 79 = .ok (.iload_n 3, 1) := by decide +kernel
theorem dX10_digest_80 : decode cX10_digest 80 = .ok (.iload 4, 2) := by decide +kernel
theorem dX10_digest_82 : decode cX10_digest 82 = .ok (.invokevirtual 261, 3) := by decide +kernel
theorem dX10_digest_85 : decode cX10_digest 85 = .ok (.i2l, 1) := by decide +kernel
theorem dX10_digest_86 : decode cX10_digest 86 = .ok (.invokestatic 254, 3) := by decide +kernel
theorem dX10_digest_89 : decode cX10_digest 89 = .ok (.lstore_n 1, 1) := by decide +kernel
theorem dX10_digest_90 : decode cX10_digest 90 = .ok (.iinc 4 1, 3) := by decide +kernel
theorem dX10_digest_93 : decode cX10_digest 93 = .ok (.goto (-28), 3) := by decide +kernel
theorem dX10_digest_96 : decode cX10_digest 96 = .ok (.iinc 3 1, 3) := by decide +kernel
theorem dX10_digest_99 : decode cX10_digest 99 = .ok (.goto (-48), 3) := by decide +kernel
theorem dX10_digest_102 : decode cX10_digest 102 = .ok (.iconst 0, 1) := by decide +kernel
theorem dX10_digest_103 : decode cX10_digest 103 = .ok (.istore_n 3, 1) := by decide +kernel
theorem dX10_digest_104 : decode cX10_digest 104 = .ok (.iload_n 3, 1) := by decide +kernel
theorem dX10_digest_105 : decode cX10_digest 105 = .ok (.iconst 4, 1) := by decide +kernel
theorem dX10_digest_106 : decode cX10_digest 106 = .ok (.if_icmp .gt 21, 3) := by decide +kernel
theorem dX10_digest_109 : decode cX10_digest 109 = .ok (.lload_n 1, 1) := by decide +kernel
theorem dX10_digest_110 : decode cX10_digest 110 = .ok (.aload_n 0, 1) := by decide +kernel
theorem dX10_digest_111 : decode cX10_digest 111 = .ok (.iload_n 3, 1) := by decide +kernel
theorem dX10_digest_112 : decode cX10_digest 112 = .ok (.iconst (-1), 1) := by decide +kernel
theorem dX10_digest_113 : decode cX10_digest 113 = .ok (.invokevirtual 264, 3) := by decide +kernel
theorem dX10_digest_116 : decode cX10_digest 116 = .ok (.i2l, 1) := by decide +kernel
theorem dX10_digest_117 : decode cX10_digest 117 = .ok (.invokestatic 254, 3) := by decide +kernel
theorem dX10_digest_120 : decode cX10_digest 120 = .ok (.lstore_n 1, 1) := by decide +kernel
theorem dX10_digest_121 : decode cX10_digest 121 = .ok (.iinc 3 1, 3) := by decide +kernel
theorem dX10_digest_124 : decode cX10_digest 124 = .ok (.goto (-20), 3) := by decide +kernel
theorem dX10_digest_127 : decode cX10_digest 127 = .ok (.iconst 0, 1) := by decide +kernel
theorem dX10_digest_128 : decode cX10_digest 128 = .ok (.istore_n 3, 1) := by decide +kernel
theorem dX10_digest_129 : decode cX10_digest 129 = .ok (.iload_n 3, 1) := by decide +kernel
theorem dX10_digest_130 : decode cX10_digest 130 = .ok (.iconst 4, 1) := by decide +kernel
theorem dX10_digest_131 : decode cX10_digest 131 = .ok (.if_icmp .gt 27, 3) := by decide +kernel
theorem dX10_digest_134 : decode cX10_digest 134 = .ok (.lload_n 1, 1) := by decide +kernel
theorem dX10_digest_135 : decode cX10_digest 135 = .ok (.aload_n 0, 1) := by decide +kernel
theorem dX10_digest_136 : decode cX10_digest 136 = .ok (.aload_n 0, 1) := by decide +kernel
theorem dX10_digest_137 : decode cX10_digest 137 = .ok (.getfield 17, 3) := by decide +kernel
theorem dX10_digest_140 : decode cX10_digest 140 = .ok (.invokevirtual 104, 3) := by decide +kernel
theorem dX10_digest_143 : decode cX10_digest 143 = .ok (.iload_n 3, 1) := by decide +kernel
theorem dX10_digest_144 : decode cX10_digest 144 = .ok (.invokevirtual 267, 3) := by decide +kernel
theorem dX10_digest_147 : decode cX10_digest 147 = .ok (.i2l, 1) := by decide +kernel
theorem dX10_digest_148 : decode cX10_digest 148 = .ok (.invokestatic 254, 3) := by decide +kernel
theorem dX10_digest_151 : decode cX10_digest 151 = .ok (.lstore_n 1, 1) := by decide +kernel
theorem dX10_digest_152 : decode cX10_digest 152 = .ok (.iinc 3 1, 3) := by decide +kernel
theorem dX10_digest_155 : decode cX10_digest 155 = .ok (.goto (-26), 3) := by decide +kernel
theorem dX10_digest_158 : decode cX10_digest 158 = .ok (.lload_n 1, 1) := by decide +kernel
theorem dX10_digest_159 : decode cX10_digest 159 = .ok (.aload_n 0, 1) := by decide +kernel
theorem dX10_digest_160 : decode cX10_digest 160 = .ok (.iconst (-1), 1) := by decide +kernel
theorem dX10_digest_161 : decode cX10_digest 161 = .ok (.invokevirtual 270, 3) := by decide +kernel
theorem dX10_digest_164 : decode cX10_digest 164 = .ok (.i2l, 1) := by decide +kernel
theorem dX10_digest_165 : decode cX10_digest 165 = .ok (.invokestatic 254, 3) := by decide +kernel
theorem dX10_digest_168 : decode cX10_digest 168 = .ok (.aload_n 0, 1) := by decide +kernel
theorem dX10_digest_169 : decode cX10_digest 169 = .ok (.getfield 21, 3) := by decide +kernel
theorem dX10_digest_172 : decode cX10_digest 172 = .ok (.invokevirtual 93, 3) := by decide +kernel
theorem dX10_digest_175 : decode cX10_digest 175 = .ok (.i2l, 1) := by decide +kernel
theorem dX10_digest_176 : decode cX10_digest 176 = .ok (.invokestatic 254, 3) := by decide +kernel
theorem dX10_digest_179 : decode cX10_digest 179 = .ok (.lstore_n 1, 1) := by decide +kernel
theorem dX10_digest_180 : decode cX10_digest 180 = .ok (.iconst 0, 1) := by decide +kernel
theorem dX10_digest_181 : decode cX10_digest 181 = .ok (.istore_n 3, 1) := by decide +kernel
theorem dX10_digest_182 : decode cX10_digest 182 = .ok (.iload_n 3, 1) := by decide +kernel
theorem dX10_digest_183 : decode cX10_digest 183 = .ok (.iconst 4, 1) := by decide +kernel
theorem dX10_digest_184 : decode cX10_digest 184 = .ok (.if_icmp .gt 26, 3) := by decide +kernel
theorem dX10_digest_187 : decode cX10_digest 187 = .ok (.lload_n 1, 1) := by decide +kernel
theorem dX10_digest_188 : decode cX10_digest 188 = .ok (.aload_n 0, 1) := by decide +kernel
theorem dX10_digest_189 : decode cX10_digest 189 = .ok (.getfield 61, 3) := by decide +kernel
theorem dX10_digest_192 : decode cX10_digest 192 = .ok (.iload_n 3, 1) := by decide +kernel
theorem dX10_digest_193 : decode cX10_digest 193 = .ok (.invokevirtual 205, 3) := by decide +kernel
theorem dX10_digest_196 : decode cX10_digest 196 = .ok (.getfield 151, 3) := by decide +kernel
theorem dX10_digest_199 : decode cX10_digest 199 = .ok (.i2l, 1) := by decide +kernel
theorem dX10_digest_200 : decode cX10_digest 200 = .ok (.invokestatic 254, 3) := by decide +kernel
theorem dX10_digest_203 : decode cX10_digest 203 = .ok (.lstore_n 1, 1) := by decide +kernel
theorem dX10_digest_204 : decode cX10_digest 204 = .ok (.iinc 3 1, 3) := by decide +kernel
theorem dX10_digest_207 : decode cX10_digest 207 = .ok (.goto (-25), 3) := by decide +kernel
theorem dX10_digest_210 : decode cX10_digest 210 = .ok (.lload_n 1, 1) := by decide +kernel
theorem dX10_digest_211 : decode cX10_digest 211 = .ok (.lreturn, 1) := by decide +kernel
theorem dX10_mixed_0 : decode cX10_mixed 0 = .ok (.ldc2_w 273, 3) := by decide +kernel
theorem dX10_mixed_3 : decode cX10_mixed 3 = .ok (.lload_n 0, 1) := by decide +kernel
theorem dX10_mixed_4 : decode cX10_mixed 4 = .ok (.lmul, 1) := by decide +kernel
theorem dX10_mixed_5 : decode cX10_mixed 5 = .ok (.lload_n 2, 1) := by decide +kernel
theorem dX10_mixed_6 : decode cX10_mixed 6 = .ok (.ladd, 1) := by decide +kernel
theorem dX10_mixed_7 : decode cX10_mixed 7 = .ok (.lreturn, 1) := by decide +kernel
theorem dX10_refused_0 : decode cX10_refused 0 = .ok (.iload_n 1, 1) := by decide +kernel
theorem dX10_refused_1 : decode cX10_refused 1 = .ok (.bipush (-2), 2) := by decide +kernel
theorem dX10_refused_3 : decode cX10_refused 3 = .ok (.if_icmp .ne 16, 3) := by decide +kernel
theorem dX10_refused_6 : decode cX10_refused 6 = .ok (.aload_n 0, 1) := by decide +kernel
theorem dX10_refused_7 : decode cX10_refused 7 = .ok (.dup, 1) := by decide +kernel
theorem dX10_refused_8 : decode cX10_refused 8 = .ok (.getfield 237, 3) := by decide +kernel
theorem dX10_refused_11 : decode cX10_refused 11 = .ok (.iconst 1, 1) := by decide +kernel
theorem dX10_refused_12 : decode cX10_refused 12 = .ok (.iadd, 1) := by decide +kernel
theorem dX10_refused_13 : decode cX10_refused 13 = .ok (.putfield 237, 3) := by decide +kernel
theorem dX10_refused_16 : decode cX10_refused 16 = .ok (.goto 32, 3) := by decide +kernel
theorem dX10_refused_19 : decode cX10_refused 19 = .ok (.iload_n 1, 1) := by decide +kernel
theorem dX10_refused_20 : decode cX10_refused 20 = .ok (.bipush (-3), 2) := by decide +kernel
theorem dX10_refused_22 : decode cX10_refused 22 = .ok (.if_icmp .ne 16, 3) := by decide +kernel
theorem dX10_refused_25 : decode cX10_refused 25 = .ok (.aload_n 0, 1) := by decide +kernel
theorem dX10_refused_26 : decode cX10_refused 26 = .ok (.dup, 1) := by decide +kernel
theorem dX10_refused_27 : decode cX10_refused 27 = .ok (.getfield 240, 3) := by decide +kernel
theorem dX10_refused_30 : decode cX10_refused 30 = .ok (.iconst 1, 1) := by decide +kernel
theorem dX10_refused_31 : decode cX10_refused 31 = .ok (.iadd, 1) := by decide +kernel
theorem dX10_refused_32 : decode cX10_refused 32 = .ok (.putfield 240, 3) := by decide +kernel
theorem dX10_refused_35 : decode cX10_refused 35 = .ok (.goto 13, 3) := by decide +kernel
theorem dX10_refused_38 : decode cX10_refused 38 = .ok (.aload_n 0, 1) := by decide +kernel
theorem dX10_refused_39 : decode cX10_refused 39 = .ok (.dup, 1) := by decide +kernel
theorem dX10_refused_40 : decode cX10_refused 40 = .ok (.getfield 243, 3) := by decide +kernel
theorem dX10_refused_43 : decode cX10_refused 43 = .ok (.iconst 1, 1) := by decide +kernel
theorem dX10_refused_44 : decode cX10_refused 44 = .ok (.iadd, 1) := by decide +kernel
theorem dX10_refused_45 : decode cX10_refused 45 = .ok (.putfield 243, 3) := by decide +kernel
theorem dX10_refused_48 : decode cX10_refused 48 = .ok (.iload_n 1, 1) := by decide +kernel
theorem dX10_refused_49 : decode cX10_refused 49 = .ok (.ireturn, 1) := by decide +kernel
theorem dX10_settled_0 : decode cX10_settled 0 = .ok (.iload_n 1, 1) := by decide +kernel
theorem dX10_settled_1 : decode cX10_settled 1 = .ok (.ifCond .ge 9, 3) := by decide +kernel
theorem dX10_settled_4 : decode cX10_settled 4 = .ok (.aload_n 0, 1) := by decide +kernel
theorem dX10_settled_5 : decode cX10_settled 5 = .ok (.iload_n 1, 1) := by decide +kernel
theorem dX10_settled_6 : decode cX10_settled 6 = .ok (.invokevirtual 120, 3) := by decide +kernel
theorem dX10_settled_9 : decode cX10_settled 9 = .ok (.ireturn, 1) := by decide +kernel
theorem dX10_settled_10 : decode cX10_settled 10 = .ok (.aload_n 0, 1) := by decide +kernel
theorem dX10_settled_11 : decode cX10_settled 11 = .ok (.getfield 31, 3) := by decide +kernel
theorem dX10_settled_14 : decode cX10_settled 14 = .ok (.aload_n 0, 1) := by decide +kernel
theorem dX10_settled_15 : decode cX10_settled 15 = .ok (.getfield 25, 3) := by decide +kernel
theorem dX10_settled_18 : decode cX10_settled 18 = .ok (.invokevirtual 229, 3) := by decide +kernel
theorem dX10_settled_21 : decode cX10_settled 21 = .ok (.iload_n 1, 1) := by decide +kernel
theorem dX10_settled_22 : decode cX10_settled 22 = .ok (.ireturn, 1) := by decide +kernel
theorem dX10_executed_0 : decode cX10_executed 0 = .ok (.aload_n 0, 1) := by decide +kernel
theorem dX10_executed_1 : decode cX10_executed 1 = .ok (.getfield 68, 3) := by decide +kernel
theorem dX10_executed_4 : decode cX10_executed 4 = .ok (.iload_n 1, 1) := by decide +kernel
theorem dX10_executed_5 : decode cX10_executed 5 = .ok (.iconst 0, 1) := by decide +kernel
theorem dX10_executed_6 : decode cX10_executed 6 = .ok (.invokevirtual 275, 3) := by decide +kernel
theorem dX10_executed_9 : decode cX10_executed 9 = .ok (.istore_n 2, 1) := by decide +kernel
theorem dX10_executed_10 : decode cX10_executed 10 = .ok (.aload_n 0, 1) := by decide +kernel
theorem dX10_executed_11 : decode cX10_executed 11 = .ok (.getfield 68, 3) := by decide +kernel
theorem dX10_executed_14 : decode cX10_executed 14 = .ok (.iload_n 1, 1) := by decide +kernel
theorem dX10_executed_15 : decode cX10_executed 15 = .ok (.iconst 1, 1) := by decide +kernel
theorem dX10_executed_16 : decode cX10_executed 16 = .ok (.invokevirtual 275, 3) := by decide +kernel
theorem dX10_executed_19 : decode cX10_executed 19 = .ok (.istore_n 3, 1) := by decide +kernel
theorem dX10_executed_20 : decode cX10_executed 20 = .ok (.aload_n 0, 1) := by decide +kernel
theorem dX10_executed_21 : decode cX10_executed 21 = .ok (.getfield 68, 3) := by decide +kernel
theorem dX10_executed_24 : decode cX10_executed 24 = .ok (.iload_n 1, 1) := by decide +kernel
theorem dX10_executed_25 : decode cX10_executed 25 = .ok (.invokevirtual 278, 3) := by decide +kernel
theorem dX10_executed_28 : decode cX10_executed 28 = .ok (.lookupswitch 117 #[(100, 52), (112, 61), (115, 107), (116, 89), (120, 98)], 52) := by decide +kernel
theorem dX10_executed_80 : decode cX10_executed 80 = .ok (.aload_n 0, 1) := by decide +kernel
theorem dX10_executed_81 : decode cX10_executed 81 = .ok (.getfield 17, 3) := by decide +kernel
theorem dX10_executed_84 : decode cX10_executed 84 = .ok (.iload_n 2, 1) := by decide +kernel
theorem dX10_executed_85 : decode cX10_executed 85 = .ok (.invokevirtual 79, 3) := by decide +kernel
theorem dX10_executed_88 : decode cX10_executed 88 = .ok (.ireturn, 1) := by decide +kernel
theorem dX10_executed_89 : decode cX10_executed 89 = .ok (.aload_n 0, 1) := by decide +kernel
theorem dX10_executed_90 : decode cX10_executed 90 = .ok (.getfield 17, 3) := by decide +kernel
theorem dX10_executed_93 : decode cX10_executed 93 = .ok (.iload_n 2, 1) := by decide +kernel
theorem dX10_executed_94 : decode cX10_executed 94 = .ok (.iload_n 3, 1) := by decide +kernel
theorem dX10_executed_95 : decode cX10_executed 95 = .ok (.aload_n 0, 1) := by decide +kernel
theorem dX10_executed_96 : decode cX10_executed 96 = .ok (.getfield 68, 3) := by decide +kernel
theorem dX10_executed_99 : decode cX10_executed 99 = .ok (.iload_n 1, 1) := by decide +kernel
theorem dX10_executed_100 : decode cX10_executed 100 = .ok (.iconst 2, 1) := by decide +kernel
theorem dX10_executed_101 : decode cX10_executed 101 = .ok (.invokevirtual 275, 3) := by decide +kernel
theorem dX10_executed_104 : decode cX10_executed 104 = .ok (.aload_n 0, 1) := by decide +kernel
theorem dX10_executed_105 : decode cX10_executed 105 = .ok (.getfield 68, 3) := by decide +kernel
theorem dX10_executed_108 : decode cX10_executed 108 = .ok (.iload_n 1, 1) := by decide +kernel
theorem dX10_executed_109 : decode cX10_executed 109 = .ok (.iconst 3, 1) := by decide +kernel
theorem dX10_executed_110 : decode cX10_executed 110 = .ok (.invokevirtual 275, 3) := by decide +kernel
theorem dX10_executed_113 : decode cX10_executed 113 = .ok (.invokevirtual 86, 3) := by decide +kernel
theorem dX10_executed_116 : decode cX10_executed 116 = .ok (.ireturn, 1) := by decide +kernel
theorem dX10_executed_117 : decode cX10_executed 117 = .ok (.aload_n 0, 1) := by decide +kernel
theorem dX10_executed_118 : decode cX10_executed 118 = .ok (.getfield 17, 3) := by decide +kernel
theorem dX10_executed_121 : decode cX10_executed 121 = .ok (.iload_n 2, 1) := by decide +kernel
theorem dX10_executed_122 : decode cX10_executed 122 = .ok (.invokevirtual 90, 3) := by decide +kernel
theorem dX10_executed_125 : decode cX10_executed 125 = .ok (.ireturn, 1) := by decide +kernel
theorem dX10_executed_126 : decode cX10_executed 126 = .ok (.aload_n 0, 1) := by decide +kernel
theorem dX10_executed_127 : decode cX10_executed 127 = .ok (.getfield 17, 3) := by decide +kernel
theorem dX10_executed_130 : decode cX10_executed 130 = .ok (.iload_n 2, 1) := by decide +kernel
theorem dX10_executed_131 : decode cX10_executed 131 = .ok (.invokevirtual 97, 3) := by decide +kernel
theorem dX10_executed_134 : decode cX10_executed 134 = .ok (.ireturn, 1) := by decide +kernel
theorem dX10_executed_135 : decode cX10_executed 135 = .ok (.aload_n 0, 1) := by decide +kernel
theorem dX10_executed_136 : decode cX10_executed 136 = .ok (.getfield 17, 3) := by decide +kernel
theorem dX10_executed_139 : decode cX10_executed 139 = .ok (.iload_n 2, 1) := by decide +kernel
theorem dX10_executed_140 : decode cX10_executed 140 = .ok (.iload_n 3, 1) := by decide +kernel
theorem dX10_executed_141 : decode cX10_executed 141 = .ok (.invokevirtual 100, 3) := by decide +kernel
theorem dX10_executed_144 : decode cX10_executed 144 = .ok (.ireturn, 1) := by decide +kernel
theorem dX10_executed_145 : decode cX10_executed 145 = .ok (.aload_n 0, 1) := by decide +kernel
theorem dX10_executed_146 : decode cX10_executed 146 = .ok (.getfield 17, 3) := by decide +kernel
theorem dX10_executed_149 : decode cX10_executed 149 = .ok (.iload_n 2, 1) := by decide +kernel
theorem dX10_executed_150 : decode cX10_executed 150 = .ok (.invokevirtual 110, 3) := by decide +kernel
theorem dX10_executed_153 : decode cX10_executed 153 = .ok (.ireturn, 1) := by decide +kernel
theorem dJ6_bitCount_0f7a4_0 : decode cJ6_bitCount_0f7a4 0 = .ok (.iload_n 0, 1) := by decide +kernel
theorem dJ6_bitCount_0f7a4_1 : decode cJ6_bitCount_0f7a4 1 = .ok (.iload_n 0, 1) := by decide +kernel
theorem dJ6_bitCount_0f7a4_2 : decode cJ6_bitCount_0f7a4 2 = .ok (.iconst 1, 1) := by decide +kernel
theorem dJ6_bitCount_0f7a4_3 : decode cJ6_bitCount_0f7a4 3 = .ok (.iushr, 1) := by decide +kernel
theorem dJ6_bitCount_0f7a4_4 : decode cJ6_bitCount_0f7a4 4 = .ok (.ldc_w 265, 3) := by decide +kernel
theorem dJ6_bitCount_0f7a4_7 : decode cJ6_bitCount_0f7a4 7 = .ok (.iand, 1) := by decide +kernel
theorem dJ6_bitCount_0f7a4_8 : decode cJ6_bitCount_0f7a4 8 = .ok (.isub, 1) := by decide +kernel
theorem dJ6_bitCount_0f7a4_9 : decode cJ6_bitCount_0f7a4 9 = .ok (.istore_n 0, 1) := by decide +kernel
theorem dJ6_bitCount_0f7a4_10 : decode cJ6_bitCount_0f7a4 10 = .ok (.iload_n 0, 1) := by decide +kernel
theorem dJ6_bitCount_0f7a4_11 : decode cJ6_bitCount_0f7a4 11 = .ok (.ldc_w 266, 3) := by decide +kernel
theorem dJ6_bitCount_0f7a4_14 : decode cJ6_bitCount_0f7a4 14 = .ok (.iand, 1) := by decide +kernel
theorem dJ6_bitCount_0f7a4_15 : decode cJ6_bitCount_0f7a4 15 = .ok (.iload_n 0, 1) := by decide +kernel
theorem dJ6_bitCount_0f7a4_16 : decode cJ6_bitCount_0f7a4 16 = .ok (.iconst 2, 1) := by decide +kernel
theorem dJ6_bitCount_0f7a4_17 : decode cJ6_bitCount_0f7a4 17 = .ok (.iushr, 1) := by decide +kernel
theorem dJ6_bitCount_0f7a4_18 : decode cJ6_bitCount_0f7a4 18 = .ok (.ldc_w 266, 3) := by decide +kernel
theorem dJ6_bitCount_0f7a4_21 : decode cJ6_bitCount_0f7a4 21 = .ok (.iand, 1) := by decide +kernel
theorem dJ6_bitCount_0f7a4_22 : decode cJ6_bitCount_0f7a4 22 = .ok (.iadd, 1) := by decide +kernel
theorem dJ6_bitCount_0f7a4_23 : decode cJ6_bitCount_0f7a4 23 = .ok (.istore_n 0, 1) := by decide +kernel
theorem dJ6_bitCount_0f7a4_24 : decode cJ6_bitCount_0f7a4 24 = .ok (.iload_n 0, 1) := by decide +kernel
theorem dJ6_bitCount_0f7a4_25 : decode cJ6_bitCount_0f7a4 25 = .ok (.iload_n 0, 1) := by decide +kernel
theorem dJ6_bitCount_0f7a4_26 : decode cJ6_bitCount_0f7a4 26 = .ok (.iconst 4, 1) := by decide +kernel
theorem dJ6_bitCount_0f7a4_27 : decode cJ6_bitCount_0f7a4 27 = .ok (.iushr, 1) := by decide +kernel
theorem dJ6_bitCount_0f7a4_28 : decode cJ6_bitCount_0f7a4 28 = .ok (.iadd, 1) := by decide +kernel
theorem dJ6_bitCount_0f7a4_29 : decode cJ6_bitCount_0f7a4 29 = .ok (.ldc_w 267, 3) := by decide +kernel
theorem dJ6_bitCount_0f7a4_32 : decode cJ6_bitCount_0f7a4 32 = .ok (.iand, 1) := by decide +kernel
theorem dJ6_bitCount_0f7a4_33 : decode cJ6_bitCount_0f7a4 33 = .ok (.istore_n 0, 1) := by decide +kernel
theorem dJ6_bitCount_0f7a4_34 : decode cJ6_bitCount_0f7a4 34 = .ok (.iload_n 0, 1) := by decide +kernel
theorem dJ6_bitCount_0f7a4_35 : decode cJ6_bitCount_0f7a4 35 = .ok (.iload_n 0, 1) := by decide +kernel
theorem dJ6_bitCount_0f7a4_36 : decode cJ6_bitCount_0f7a4 36 = .ok (.bipush 8, 2) := by decide +kernel
theorem dJ6_bitCount_0f7a4_38 : decode cJ6_bitCount_0f7a4 38 = .ok (.iushr, 1) := by decide +kernel
theorem dJ6_bitCount_0f7a4_39 : decode cJ6_bitCount_0f7a4 39 = .ok (.iadd, 1) := by decide +kernel
theorem dJ6_bitCount_0f7a4_40 : decode cJ6_bitCount_0f7a4 40 = .ok (.istore_n 0, 1) := by decide +kernel
theorem dJ6_bitCount_0f7a4_41 : decode cJ6_bitCount_0f7a4 41 = .ok (.iload_n 0, 1) := by decide +kernel
theorem dJ6_bitCount_0f7a4_42 : decode cJ6_bitCount_0f7a4 42 = .ok (.iload_n 0, 1) := by decide +kernel
theorem dJ6_bitCount_0f7a4_43 : decode cJ6_bitCount_0f7a4 43 = .ok (.bipush 16, 2) := by decide +kernel
theorem dJ6_bitCount_0f7a4_45 : decode cJ6_bitCount_0f7a4 45 = .ok (.iushr, 1) := by decide +kernel
theorem dJ6_bitCount_0f7a4_46 : decode cJ6_bitCount_0f7a4 46 = .ok (.iadd, 1) := by decide +kernel
theorem dJ6_bitCount_0f7a4_47 : decode cJ6_bitCount_0f7a4 47 = .ok (.istore_n 0, 1) := by decide +kernel
theorem dJ6_bitCount_0f7a4_48 : decode cJ6_bitCount_0f7a4 48 = .ok (.iload_n 0, 1) := by decide +kernel
theorem dJ6_bitCount_0f7a4_49 : decode cJ6_bitCount_0f7a4 49 = .ok (.bipush 63, 2) := by decide +kernel
theorem dJ6_bitCount_0f7a4_51 : decode cJ6_bitCount_0f7a4 51 = .ok (.iand, 1) := by decide +kernel
theorem dJ6_bitCount_0f7a4_52 : decode cJ6_bitCount_0f7a4 52 = .ok (.ireturn, 1) := by decide +kernel
theorem dJ9_abs_0f7a4_0 : decode cJ9_abs_0f7a4 0 = .ok (.iload_n 0, 1) := by decide +kernel
theorem dJ9_abs_0f7a4_1 : decode cJ9_abs_0f7a4 1 = .ok (.ifCond .ge 8, 3) := by decide +kernel
theorem dJ9_abs_0f7a4_4 : decode cJ9_abs_0f7a4 4 = .ok (.iload_n 0, 1) := by decide +kernel
theorem dJ9_abs_0f7a4_5 : decode cJ9_abs_0f7a4 5 = .ok (.ineg, 1) := by decide +kernel
theorem dJ9_abs_0f7a4_6 : decode cJ9_abs_0f7a4 6 = .ok (.goto 4, 3) := by decide +kernel
theorem dJ9_abs_0f7a4_9 : decode cJ9_abs_0f7a4 9 = .ok (.iload_n 0, 1) := by decide +kernel
theorem dJ9_abs_0f7a4_10 : decode cJ9_abs_0f7a4 10 = .ok (.ireturn, 1) := by decide +kernel
theorem dJ9_abs_067f4_0 : decode cJ9_abs_067f4 0 = .ok (.lload_n 0, 1) := by decide +kernel
theorem dJ9_abs_067f4_1 : decode cJ9_abs_067f4 1 = .ok (.lconst 0, 1) := by decide +kernel
theorem dJ9_abs_067f4_2 : decode cJ9_abs_067f4 2 = .ok (.lcmp, 1) := by decide +kernel
theorem dJ9_abs_067f4_3 : decode cJ9_abs_067f4 3 = .ok (.ifCond .ge 8, 3) := by decide +kernel
theorem dJ9_abs_067f4_6 : decode cJ9_abs_067f4 6 = .ok (.lload_n 0, 1) := by decide +kernel
theorem dJ9_abs_067f4_7 : decode cJ9_abs_067f4 7 = .ok (.lneg, 1) := by decide +kernel
theorem dJ9_abs_067f4_8 : decode cJ9_abs_067f4 8 = .ok (.goto 4, 3) := by decide +kernel
theorem dJ9_abs_067f4_11 : decode cJ9_abs_067f4 11 = .ok (.lload_n 0, 1) := by decide +kernel
theorem dJ9_abs_067f4_12 : decode cJ9_abs_067f4 12 = .ok (.lreturn, 1) := by decide +kernel
theorem dJ9_max_7cf53_0 : decode cJ9_max_7cf53 0 = .ok (.iload_n 0, 1) := by decide +kernel
theorem dJ9_max_7cf53_1 : decode cJ9_max_7cf53 1 = .ok (.iload_n 1, 1) := by decide +kernel
theorem dJ9_max_7cf53_2 : decode cJ9_max_7cf53 2 = .ok (.if_icmp .lt 7, 3) := by decide +kernel
theorem dJ9_max_7cf53_5 : decode cJ9_max_7cf53 5 = .ok (.iload_n 0, 1) := by decide +kernel
theorem dJ9_max_7cf53_6 : decode cJ9_max_7cf53 6 = .ok (.goto 4, 3) := by decide +kernel
theorem dJ9_max_7cf53_9 : decode cJ9_max_7cf53 9 = .ok (.iload_n 1, 1) := by decide +kernel
theorem dJ9_max_7cf53_10 : decode cJ9_max_7cf53 10 = .ok (.ireturn, 1) := by decide +kernel
theorem dJ9_min_7cf53_0 : decode cJ9_min_7cf53 0 = .ok (.iload_n 0, 1) := by decide +kernel
theorem dJ9_min_7cf53_1 : decode cJ9_min_7cf53 1 = .ok (.iload_n 1, 1) := by decide +kernel
theorem dJ9_min_7cf53_2 : decode cJ9_min_7cf53 2 = .ok (.if_icmp .gt 7, 3) := by decide +kernel
theorem dJ9_min_7cf53_5 : decode cJ9_min_7cf53 5 = .ok (.iload_n 0, 1) := by decide +kernel
theorem dJ9_min_7cf53_6 : decode cJ9_min_7cf53 6 = .ok (.goto 4, 3) := by decide +kernel
theorem dJ9_min_7cf53_9 : decode cJ9_min_7cf53 9 = .ok (.iload_n 1, 1) := by decide +kernel
theorem dJ9_min_7cf53_10 : decode cJ9_min_7cf53 10 = .ok (.ireturn, 1) := by decide +kernel
theorem dJ7_fill_53178_0 : decode cJ7_fill_53178 0 = .ok (.iconst 0, 1) := by decide +kernel
theorem dJ7_fill_53178_1 : decode cJ7_fill_53178 1 = .ok (.istore_n 2, 1) := by decide +kernel
theorem dJ7_fill_53178_2 : decode cJ7_fill_53178 2 = .ok (.aload_n 0, 1) := by decide +kernel
theorem dJ7_fill_53178_3 : decode cJ7_fill_53178 3 = .ok (.arraylength, 1) := by decide +kernel
theorem dJ7_fill_53178_4 : decode cJ7_fill_53178 4 = .ok (.istore_n 3, 1) := by decide +kernel
theorem dJ7_fill_53178_5 : decode cJ7_fill_53178 5 = .ok (.iload_n 2, 1) := by decide +kernel
theorem dJ7_fill_53178_6 : decode cJ7_fill_53178 6 = .ok (.iload_n 3, 1) := by decide +kernel
theorem dJ7_fill_53178_7 : decode cJ7_fill_53178 7 = .ok (.if_icmp .ge 13, 3) := by decide +kernel
theorem dJ7_fill_53178_10 : decode cJ7_fill_53178 10 = .ok (.aload_n 0, 1) := by decide +kernel
theorem dJ7_fill_53178_11 : decode cJ7_fill_53178 11 = .ok (.iload_n 2, 1) := by decide +kernel
theorem dJ7_fill_53178_12 : decode cJ7_fill_53178 12 = .ok (.iload_n 1, 1) := by decide +kernel
theorem dJ7_fill_53178_13 : decode cJ7_fill_53178 13 = .ok (.iastore, 1) := by decide +kernel
theorem dJ7_fill_53178_14 : decode cJ7_fill_53178 14 = .ok (.iinc 2 1, 3) := by decide +kernel
theorem dJ7_fill_53178_17 : decode cJ7_fill_53178 17 = .ok (.goto (-12), 3) := by decide +kernel
theorem dJ7_fill_53178_20 : decode cJ7_fill_53178 20 = .ok (.return_, 1) := by decide +kernel
theorem dL_law_0 : decode cL_law 0 = .ok (.new 7, 3) := by decide +kernel
theorem dL_law_3 : decode cL_law 3 = .ok (.dup, 1) := by decide +kernel
theorem dL_law_4 : decode cL_law 4 = .ok (.invokespecial 9, 3) := by decide +kernel
theorem dL_law_7 : decode cL_law 7 = .ok (.astore_n 1, 1) := by decide +kernel
theorem dL_law_8 : decode cL_law 8 = .ok (.new 10, 3) := by decide +kernel
theorem dL_law_11 : decode cL_law 11 = .ok (.dup, 1) := by decide +kernel
theorem dL_law_12 : decode cL_law 12 = .ok (.invokespecial 12, 3) := by decide +kernel
theorem dL_law_15 : decode cL_law 15 = .ok (.astore_n 2, 1) := by decide +kernel
theorem dL_law_16 : decode cL_law 16 = .ok (.iconst 0, 1) := by decide +kernel
theorem dL_law_17 : decode cL_law 17 = .ok (.istore_n 3, 1) := by decide +kernel
theorem dL_law_18 : decode cL_law 18 = .ok (.iload_n 3, 1) := by decide +kernel
theorem dL_law_19 : decode cL_law 19 = .ok (.aload_n 0, 1) := by decide +kernel
theorem dL_law_20 : decode cL_law 20 = .ok (.arraylength, 1) := by decide +kernel
theorem dL_law_21 : decode cL_law 21 = .ok (.iconst 5, 1) := by decide +kernel
theorem dL_law_22 : decode cL_law 22 = .ok (.isub, 1) := by decide +kernel
theorem dL_law_23 : decode cL_law 23 = .ok (.if_icmp .gt 979, 3) := by decide +kernel
theorem dL_law_26 : decode cL_law 26 = .ok (.aload_n 0, 1) := by decide +kernel
theorem dL_law_27 : decode cL_law 27 = .ok (.iload_n 3, 1) := by decide +kernel
theorem dL_law_28 : decode cL_law 28 = .ok (.iaload, 1) := by decide +kernel
theorem dL_law_29 : decode cL_law 29 = .ok (.bipush 31, 2) := by decide +kernel
theorem dL_law_31 : decode cL_law 31 = .ok (.iand, 1) := by decide +kernel
theorem dL_law_32 : decode cL_law 32 = .ok (.tableswitch 964 0 30 #[140, 163, 216, 239, 262, 295, 318, 351, 374, 397, 430, 453, 476, 509, 542, 565, 598, 621, 644, 687, 720, 743, 776, 809, 842, 865, 878, 891, 914, 927, 950], 140) := by decide +kernel
theorem dL_law_172 : decode cL_law 172 = .ok (.aload_n 1, 1) := by decide +kernel
theorem dL_law_173 : decode cL_law 173 = .ok (.aload_n 0, 1) := by decide +kernel
theorem dL_law_174 : decode cL_law 174 = .ok (.iload_n 3, 1) := by decide +kernel
theorem dL_law_175 : decode cL_law 175 = .ok (.iconst 1, 1) := by decide +kernel
theorem dL_law_176 : decode cL_law 176 = .ok (.iadd, 1) := by decide +kernel
theorem dL_law_177 : decode cL_law 177 = .ok (.iaload, 1) := by decide +kernel
theorem dL_law_178 : decode cL_law 178 = .ok (.invokevirtual 13, 3) := by decide +kernel
theorem dL_law_181 : decode cL_law 181 = .ok (.aload_n 2, 1) := by decide +kernel
theorem dL_law_182 : decode cL_law 182 = .ok (.aload_n 0, 1) := by decide +kernel
theorem dL_law_183 : decode cL_law 183 = .ok (.iload_n 3, 1) := by decide +kernel
theorem dL_law_184 : decode cL_law 184 = .ok (.iconst 1, 1) := by decide +kernel
theorem dL_law_185 : decode cL_law 185 = .ok (.iadd, 1) := by decide +kernel
theorem dL_law_186 : decode cL_law 186 = .ok (.iaload, 1) := by decide +kernel
theorem dL_law_187 : decode cL_law 187 = .ok (.invokevirtual 17, 3) := by decide +kernel
theorem dL_law_190 : decode cL_law 190 = .ok (.if_icmp .eq 806, 3) := by decide +kernel
theorem dL_law_193 : decode cL_law 193 = .ok (.iconst 0, 1) := by decide +kernel
theorem dL_law_194 : decode cL_law 194 = .ok (.ireturn, 1) := by decide +kernel
theorem dL_law_195 : decode cL_law 195 = .ok (.aload_n 1, 1) := by decide +kernel
theorem dL_law_196 : decode cL_law 196 = .ok (.aload_n 0, 1) := by decide +kernel
theorem dL_law_197 : decode cL_law 197 = .ok (.iload_n 3, 1) := by decide +kernel
theorem dL_law_198 : decode cL_law 198 = .ok (.iconst 1, 1) := by decide +kernel
theorem dL_law_199 : decode cL_law 199 = .ok (.iadd, 1) := by decide +kernel
theorem dL_law_200 : decode cL_law 200 = .ok (.iaload, 1) := by decide +kernel
theorem dL_law_201 : decode cL_law 201 = .ok (.aload_n 0, 1) := by decide +kernel
theorem dL_law_202 : decode cL_law 202 = .ok (.iload_n 3, 1) := by decide +kernel
theorem dL_law_203 : decode cL_law 203 = .ok (.iconst 2, 1) := by decide +kernel
theorem dL_law_204 : decode cL_law 204 = .ok (.iadd, 1) := by decide +kernel
theorem dL_law_205 : decode cL_law 205 = .ok (.iaload, 1) := by decide +kernel
theorem dL_law_206 : decode cL_law 206 = .ok (.aload_n 0, 1) := by decide +kernel
theorem dL_law_207 : decode cL_law 207 = .ok (.iload_n 3, 1) := by decide +kernel
theorem dL_law_208 : decode cL_law 208 = .ok (.iconst 3, 1) := by decide +kernel
theorem dL_law_209 : decode cL_law 209 = .ok (.iadd, 1) := by decide +kernel
theorem dL_law_210 : decode cL_law 210 = .ok (.iaload, 1) := by decide +kernel
theorem dL_law_211 : decode cL_law 211 = .ok (.aload_n 0, 1) := by decide +kernel
theorem dL_law_212 : decode cL_law 212 = .ok (.iload_n 3, 1) := by decide +kernel
theorem dL_law_213 : decode cL_law 213 = .ok (.iconst 4, 1) := by decide +kernel
theorem dL_law_214 : decode cL_law 214 = .ok (.iadd, 1) := by decide +kernel
theorem dL_law_215 : decode cL_law 215 = .ok (.iaload, 1) := by decide +kernel
theorem dL_law_216 : decode cL_law 216 = .ok (.invokevirtual 18, 3) := by decide +kernel
theorem dL_law_219 : decode cL_law 219 = .ok (.aload_n 2, 1) := by decide +kernel
theorem dL_law_220 : decode cL_law 220 = .ok (.aload_n 0, 1) := by decide +kernel
theorem dL_law_221 : decode cL_law 221 = .ok (.iload_n 3, 1) := by decide +kernel
theorem dL_law_222 : decode cL_law 222 = .ok (.iconst 1, 1) := by decide +kernel
theorem dL_law_223 : decode cL_law 223 = .ok (.iadd, 1) := by decide +kernel
theorem dL_law_224 : decode cL_law 224 = .ok (.iaload, 1) := by decide +kernel
theorem dL_law_225 : decode cL_law 225 = .ok (.aload_n 0, 1) := by decide +kernel
theorem dL_law_226 : decode cL_law 226 = .ok (.iload_n 3, 1) := by decide +kernel
theorem dL_law_227 : decode cL_law 227 = .ok (.iconst 2, 1) := by decide +kernel
theorem dL_law_228 : decode cL_law 228 = .ok (.iadd, 1) := by decide +kernel
theorem dL_law_229 : decode cL_law 229 = .ok (.iaload, 1) := by decide +kernel
theorem dL_law_230 : decode cL_law 230 = .ok (.aload_n 0, 1) := by decide +kernel
theorem dL_law_231 : decode cL_law 231 = .ok (.iload_n 3, 1) := by decide +kernel
theorem dL_law_232 : decode cL_law 232 = .ok (.iconst 3, 1) := by decide +kernel
theorem dL_law_233 : decode cL_law 233 = .ok (.iadd, 1) := by decide +kernel
theorem dL_law_234 : decode cL_law 234 = .ok (.iaload, 1) := by decide +kernel
theorem dL_law_235 : decode cL_law 235 = .ok (.aload_n 0, 1) := by decide +kernel
theorem dL_law_236 : decode cL_law 236 = .ok (.iload_n 3, 1) := by decide +kernel
theorem dL_law_237 : decode cL_law 237 = .ok (.iconst 4, 1) := by decide +kernel
theorem dL_law_238 : decode cL_law 238 = .ok (.iadd, 1) := by decide +kernel
theorem dL_law_239 : decode cL_law 239 = .ok (.iaload, 1) := by decide +kernel
theorem dL_law_240 : decode cL_law 240 = .ok (.invokevirtual 22, 3) := by decide +kernel
theorem dL_law_243 : decode cL_law 243 = .ok (.if_icmp .eq 753, 3) := by decide +kernel
