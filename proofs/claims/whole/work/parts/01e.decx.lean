theorem dX0_init_0 : decode cX0_init 0 = .ok (.aload_n 0, 1) := by decide +kernel
theorem dX0_init_1 : decode cX0_init 1 = .ok (.invokespecial 3, 3) := by decide +kernel
theorem dX0_init_4 : decode cX0_init 4 = .ok (.aload_n 0, 1) := by decide +kernel
theorem dX0_init_5 : decode cX0_init 5 = .ok (.sipush 512, 3) := by decide +kernel
theorem dX0_init_8 : decode cX0_init 8 = .ok (.newarray .int, 2) := by decide +kernel
theorem dX0_init_10 : decode cX0_init 10 = .ok (.putfield 9, 3) := by decide +kernel
theorem dX0_init_13 : decode cX0_init 13 = .ok (.aload_n 0, 1) := by decide +kernel
theorem dX0_init_14 : decode cX0_init 14 = .ok (.sipush 512, 3) := by decide +kernel
theorem dX0_init_17 : decode cX0_init 17 = .ok (.newarray .int, 2) := by decide +kernel
theorem dX0_init_19 : decode cX0_init 19 = .ok (.putfield 15, 3) := by decide +kernel
theorem dX0_init_22 : decode cX0_init 22 = .ok (.aload_n 0, 1) := by decide +kernel
theorem dX0_init_23 : decode cX0_init 23 = .ok (.new 18, 3) := by decide +kernel
theorem dX0_init_26 : decode cX0_init 26 = .ok (.dup, 1) := by decide +kernel
theorem dX0_init_27 : decode cX0_init 27 = .ok (.bipush 126, 2) := by decide +kernel
theorem dX0_init_29 : decode cX0_init 29 = .ok (.invokespecial 20, 3) := by decide +kernel
theorem dX0_init_32 : decode cX0_init 32 = .ok (.putfield 23, 3) := by decide +kernel
theorem dX0_init_35 : decode cX0_init 35 = .ok (.aload_n 0, 1) := by decide +kernel
theorem dX0_init_36 : decode cX0_init 36 = .ok (.iconst (-1), 1) := by decide +kernel
theorem dX0_init_37 : decode cX0_init 37 = .ok (.putfield 27, 3) := by decide +kernel
theorem dX0_init_40 : decode cX0_init 40 = .ok (.aload_n 0, 1) := by decide +kernel
theorem dX0_init_41 : decode cX0_init 41 = .ok (.aload_n 1, 1) := by decide +kernel
theorem dX0_init_42 : decode cX0_init 42 = .ok (.putfield 31, 3) := by decide +kernel
theorem dX0_init_45 : decode cX0_init 45 = .ok (.aload_n 0, 1) := by decide +kernel
theorem dX0_init_46 : decode cX0_init 46 = .ok (.aload_n 2, 1) := by decide +kernel
theorem dX0_init_47 : decode cX0_init 47 = .ok (.putfield 35, 3) := by decide +kernel
theorem dX0_init_50 : decode cX0_init 50 = .ok (.return_, 1) := by decide +kernel
theorem dX0_refresh_0 : decode cX0_refresh 0 = .ok (.aload_n 0, 1) := by decide +kernel
theorem dX0_refresh_1 : decode cX0_refresh 1 = .ok (.getfield 27, 3) := by decide +kernel
theorem dX0_refresh_4 : decode cX0_refresh 4 = .ok (.aload_n 0, 1) := by decide +kernel
theorem dX0_refresh_5 : decode cX0_refresh 5 = .ok (.getfield 31, 3) := by decide +kernel
theorem dX0_refresh_8 : decode cX0_refresh 8 = .ok (.getfield 39, 3) := by decide +kernel
theorem dX0_refresh_11 : decode cX0_refresh 11 = .ok (.if_icmp .ne 4, 3) := by decide +kernel
theorem dX0_refresh_14 : decode cX0_refresh 14 = .ok (.return_, 1) := by decide +kernel
theorem dX0_refresh_15 : decode cX0_refresh 15 = .ok (.aload_n 0, 1) := by decide +kernel
theorem dX0_refresh_16 : decode cX0_refresh 16 = .ok (.aload_n 0, 1) := by decide +kernel
theorem dX0_refresh_17 : decode cX0_refresh 17 = .ok (.getfield 31, 3) := by decide +kernel
theorem dX0_refresh_20 : decode cX0_refresh 20 = .ok (.getfield 39, 3) := by decide +kernel
theorem dX0_refresh_23 : decode cX0_refresh 23 = .ok (.putfield 27, 3) := by decide +kernel
theorem dX0_refresh_26 : decode cX0_refresh 26 = .ok (.aload_n 0, 1) := by decide +kernel
theorem dX0_refresh_27 : decode cX0_refresh 27 = .ok (.getfield 9, 3) := by decide +kernel
theorem dX0_refresh_30 : decode cX0_refresh 30 = .ok (.iconst 0, 1) := by decide +kernel
theorem dX0_refresh_31 : decode cX0_refresh 31 = .ok (.invokestatic 44, 3) := by decide +kernel
theorem dX0_refresh_34 : decode cX0_refresh 34 = .ok (.aload_n 0, 1) := by decide +kernel
theorem dX0_refresh_35 : decode cX0_refresh 35 = .ok (.getfield 35, 3) := by decide +kernel
theorem dX0_refresh_38 : decode cX0_refresh 38 = .ok (.invokevirtual 50, 3) := by decide +kernel
theorem dX0_refresh_41 : decode cX0_refresh 41 = .ok (.aload_n 0, 1) := by decide +kernel
theorem dX0_refresh_42 : decode cX0_refresh 42 = .ok (.getfield 35, 3) := by decide +kernel
theorem dX0_refresh_45 : decode cX0_refresh 45 = .ok (.getfield 55, 3) := by decide +kernel
theorem dX0_refresh_48 : decode cX0_refresh 48 = .ok (.astore_n 1, 1) := by decide +kernel
theorem dX0_refresh_49 : decode cX0_refresh 49 = .ok (.iconst 0, 1) := by decide +kernel
theorem dX0_refresh_50 : decode cX0_refresh 50 = .ok (.istore_n 2, 1) := by decide +kernel
theorem dX0_refresh_51 : decode cX0_refresh 51 = .ok (.iload_n 2, 1) := by decide +kernel
theorem dX0_refresh_52 : decode cX0_refresh 52 = .ok (.aload_n 1, 1) := by decide +kernel
theorem dX0_refresh_53 : decode cX0_refresh 53 = .ok (.getfield 58, 3) := by decide +kernel
theorem dX0_refresh_56 : decode cX0_refresh 56 = .ok (.if_icmp .ge 27, 3) := by decide +kernel
theorem dX0_refresh_59 : decode cX0_refresh 59 = .ok (.aload_n 1, 1) := by decide +kernel
theorem dX0_refresh_60 : decode cX0_refresh 60 = .ok (.getfield 61, 3) := by decide +kernel
theorem dX0_refresh_63 : decode cX0_refresh 63 = .ok (.iload_n 2, 1) := by decide +kernel
theorem dX0_refresh_64 : decode cX0_refresh 64 = .ok (.iaload, 1) := by decide +kernel
theorem dX0_refresh_65 : decode cX0_refresh 65 = .ok (.istore_n 3, 1) := by decide +kernel
theorem dX0_refresh_66 : decode cX0_refresh 66 = .ok (.aload_n 0, 1) := by decide +kernel
theorem dX0_refresh_67 : decode cX0_refresh 67 = .ok (.getfield 9, 3) := by decide +kernel
theorem dX0_refresh_70 : decode cX0_refresh 70 = .ok (.iload_n 3, 1) := by decide +kernel
theorem dX0_refresh_71 : decode cX0_refresh 71 = .ok (.iload_n 3, 1) := by decide +kernel
theorem dX0_refresh_72 : decode cX0_refresh 72 = .ok (.iconst 1, 1) := by decide +kernel
theorem dX0_refresh_73 : decode cX0_refresh 73 = .ok (.isub, 1) := by decide +kernel
theorem dX0_refresh_74 : decode cX0_refresh 74 = .ok (.iand, 1) := by decide +kernel
theorem dX0_refresh_75 : decode cX0_refresh 75 = .ok (.iload_n 3, 1) := by decide +kernel
theorem dX0_refresh_76 : decode cX0_refresh 76 = .ok (.iastore, 1) := by decide +kernel
theorem dX0_refresh_77 : decode cX0_refresh 77 = .ok (.iinc 2 1, 3) := by decide +kernel
theorem dX0_refresh_80 : decode cX0_refresh 80 = .ok (.goto (-29), 3) := by decide +kernel
theorem dX0_refresh_83 : decode cX0_refresh 83 = .ok (.iconst 0, 1) := by decide +kernel
theorem dX0_refresh_84 : decode cX0_refresh 84 = .ok (.istore_n 2, 1) := by decide +kernel
theorem dX0_refresh_85 : decode cX0_refresh 85 = .ok (.iload_n 2, 1) := by decide +kernel
theorem dX0_refresh_86 : decode cX0_refresh 86 = .ok (.aload_n 0, 1) := by decide +kernel
theorem dX0_refresh_87 : decode cX0_refresh 87 = .ok (.getfield 31, 3) := by decide +kernel
theorem dX0_refresh_90 : decode cX0_refresh 90 = .ok (.invokevirtual 64, 3) := by decide +kernel
theorem dX0_refresh_93 : decode cX0_refresh 93 = .ok (.if_icmp .gt 61, 3) := by decide +kernel
theorem dX0_refresh_96 : decode cX0_refresh 96 = .ok (.iconst 0, 1) := by decide +kernel
theorem dX0_refresh_97 : decode cX0_refresh 97 = .ok (.istore_n 3, 1) := by decide +kernel
theorem dX0_refresh_98 : decode cX0_refresh 98 = .ok (.iload_n 3, 1) := by decide +kernel
theorem dX0_refresh_99 : decode cX0_refresh 99 = .ok (.aload_n 0, 1) := by decide +kernel
theorem dX0_refresh_100 : decode cX0_refresh 100 = .ok (.getfield 31, 3) := by decide +kernel
theorem dX0_refresh_103 : decode cX0_refresh 103 = .ok (.getfield 68, 3) := by decide +kernel
theorem dX0_refresh_106 : decode cX0_refresh 106 = .ok (.if_icmp .ge 42, 3) := by decide +kernel
theorem dX0_refresh_109 : decode cX0_refresh 109 = .ok (.aload_n 0, 1) := by decide +kernel
theorem dX0_refresh_110 : decode cX0_refresh 110 = .ok (.getfield 9, 3) := by decide +kernel
theorem dX0_refresh_113 : decode cX0_refresh 113 = .ok (.iload_n 2, 1) := by decide +kernel
theorem dX0_refresh_114 : decode cX0_refresh 114 = .ok (.iaload, 1) := by decide +kernel
theorem dX0_refresh_115 : decode cX0_refresh 115 = .ok (.ifCond .ne 33, 3) := by decide +kernel
theorem dX0_refresh_118 : decode cX0_refresh 118 = .ok (.iload_n 2, 1) := by decide +kernel
theorem dX0_refresh_119 : decode cX0_refresh 119 = .ok (.iload_n 3, 1) := by decide +kernel
theorem dX0_refresh_120 : decode cX0_refresh 120 = .ok (.ishr, 1) := by decide +kernel
theorem dX0_refresh_121 : decode cX0_refresh 121 = .ok (.iconst 1, 1) := by decide +kernel
theorem dX0_refresh_122 : decode cX0_refresh 122 = .ok (.iand, 1) := by decide +kernel
theorem dX0_refresh_123 : decode cX0_refresh 123 = .ok (.ifCond .eq 19, 3) := by decide +kernel
theorem dX0_refresh_126 : decode cX0_refresh 126 = .ok (.aload_n 0, 1) := by decide +kernel
theorem dX0_refresh_127 : decode cX0_refresh 127 = .ok (.getfield 9, 3) := by decide +kernel
theorem dX0_refresh_130 : decode cX0_refresh 130 = .ok (.iload_n 2, 1) := by decide +kernel
theorem dX0_refresh_131 : decode cX0_refresh 131 = .ok (.aload_n 0, 1) := by decide +kernel
theorem dX0_refresh_132 : decode cX0_refresh 132 = .ok (.getfield 9, 3) := by decide +kernel
theorem dX0_refresh_135 : decode cX0_refresh 135 = .ok (.iload_n 2, 1) := by decide +kernel
theorem dX0_refresh_136 : decode cX0_refresh 136 = .ok (.iconst 1, 1) := by decide +kernel
theorem dX0_refresh_137 : decode cX0_refresh 137 = .ok (.iload_n 3, 1) := by decide +kernel
theorem dX0_refresh_138 : decode cX0_refresh 138 = .ok (.ishl, 1) := by decide +kernel
theorem dX0_refresh_139 : decode cX0_refresh 139 = .ok (.ixor, 1) := by decide +kernel
theorem dX0_refresh_140 : decode cX0_refresh 140 = .ok (.iaload, 1) := by decide +kernel
theorem dX0_refresh_141 : decode cX0_refresh 141 = .ok (.iastore, 1) := by decide +kernel
theorem dX0_refresh_142 : decode cX0_refresh 142 = .ok (.iinc 3 1, 3) := by decide +kernel
theorem dX0_refresh_145 : decode cX0_refresh 145 = .ok (.goto (-47), 3) := by decide +kernel
theorem dX0_refresh_148 : decode cX0_refresh 148 = .ok (.iinc 2 1, 3) := by decide +kernel
theorem dX0_refresh_151 : decode cX0_refresh 151 = .ok (.goto (-66), 3) := by decide +kernel
theorem dX0_refresh_154 : decode cX0_refresh 154 = .ok (.return_, 1) := by decide +kernel
theorem dX0_baseSetsOfSize_0 : decode cX0_baseSetsOfSize 0 = .ok (.aload_n 0, 1) := by decide +kernel
theorem dX0_baseSetsOfSize_1 : decode cX0_baseSetsOfSize 1 = .ok (.invokevirtual 71, 3) := by decide +kernel
theorem dX0_baseSetsOfSize_4 : decode cX0_baseSetsOfSize 4 = .ok (.aload_n 0, 1) := by decide +kernel
theorem dX0_baseSetsOfSize_5 : decode cX0_baseSetsOfSize 5 = .ok (.getfield 23, 3) := by decide +kernel
theorem dX0_baseSetsOfSize_8 : decode cX0_baseSetsOfSize 8 = .ok (.iconst 0, 1) := by decide +kernel
theorem dX0_baseSetsOfSize_9 : decode cX0_baseSetsOfSize 9 = .ok (.putfield 58, 3) := by decide +kernel
theorem dX0_baseSetsOfSize_12 : decode cX0_baseSetsOfSize 12 = .ok (.iconst 0, 1) := by decide +kernel
theorem dX0_baseSetsOfSize_13 : decode cX0_baseSetsOfSize 13 = .ok (.istore_n 2, 1) := by decide +kernel
theorem dX0_baseSetsOfSize_14 : decode cX0_baseSetsOfSize 14 = .ok (.iload_n 2, 1) := by decide +kernel
theorem dX0_baseSetsOfSize_15 : decode cX0_baseSetsOfSize 15 = .ok (.aload_n 0, 1) := by decide +kernel
theorem dX0_baseSetsOfSize_16 : decode cX0_baseSetsOfSize 16 = .ok (.getfield 31, 3) := by decide +kernel
theorem dX0_baseSetsOfSize_19 : decode cX0_baseSetsOfSize 19 = .ok (.invokevirtual 64, 3) := by decide +kernel
theorem dX0_baseSetsOfSize_22 : decode cX0_baseSetsOfSize 22 = .ok (.if_icmp .gt 45, 3) := by decide +kernel
theorem dX0_baseSetsOfSize_25 : decode cX0_baseSetsOfSize 25 = .ok (.iload_n 2, 1) := by decide +kernel
theorem dX0_baseSetsOfSize_26 : decode cX0_baseSetsOfSize 26 = .ok (.invokestatic 72, 3) := by decide +kernel
theorem dX0_baseSetsOfSize_29 : decode cX0_baseSetsOfSize 29 = .ok (.iload_n 1, 1) := by decide +kernel
theorem dX0_baseSetsOfSize_30 : decode cX0_baseSetsOfSize 30 = .ok (.if_icmp .ne 31, 3) := by decide +kernel
theorem dX0_baseSetsOfSize_33 : decode cX0_baseSetsOfSize 33 = .ok (.aload_n 0, 1) := by decide +kernel
theorem dX0_baseSetsOfSize_34 : decode cX0_baseSetsOfSize 34 = .ok (.getfield 9, 3) := by decide +kernel
theorem dX0_baseSetsOfSize_37 : decode cX0_baseSetsOfSize 37 = .ok (.iload_n 2, 1) := by decide +kernel
theorem dX0_baseSetsOfSize_38 : decode cX0_baseSetsOfSize 38 = .ok (.iaload, 1) := by decide +kernel
theorem dX0_baseSetsOfSize_39 : decode cX0_baseSetsOfSize 39 = .ok (.ifCond .ne 22, 3) := by decide +kernel
theorem dX0_baseSetsOfSize_42 : decode cX0_baseSetsOfSize 42 = .ok (.aload_n 0, 1) := by decide +kernel
theorem dX0_baseSetsOfSize_43 : decode cX0_baseSetsOfSize 43 = .ok (.getfield 35, 3) := by decide +kernel
theorem dX0_baseSetsOfSize_46 : decode cX0_baseSetsOfSize 46 = .ok (.iload_n 2, 1) := by decide +kernel
theorem dX0_baseSetsOfSize_47 : decode cX0_baseSetsOfSize 47 = .ok (.invokevirtual 78, 3) := by decide +kernel
theorem dX0_baseSetsOfSize_50 : decode cX0_baseSetsOfSize 50 = .ok (.ifCond .eq 11, 3) := by decide +kernel
theorem dX0_baseSetsOfSize_53 : decode cX0_baseSetsOfSize 53 = .ok (.aload_n 0, 1) := by decide +kernel
theorem dX0_baseSetsOfSize_54 : decode cX0_baseSetsOfSize 54 = .ok (.getfield 23, 3) := by decide +kernel
theorem dX0_baseSetsOfSize_57 : decode cX0_baseSetsOfSize 57 = .ok (.iload_n 2, 1) := by decide +kernel
theorem dX0_baseSetsOfSize_58 : decode cX0_baseSetsOfSize 58 = .ok (.invokevirtual 82, 3) := by decide +kernel
theorem dX0_baseSetsOfSize_61 : decode cX0_baseSetsOfSize 61 = .ok (.iinc 2 1, 3) := by decide +kernel
theorem dX0_baseSetsOfSize_64 : decode cX0_baseSetsOfSize 64 = .ok (.goto (-50), 3) := by decide +kernel
theorem dX0_baseSetsOfSize_67 : decode cX0_baseSetsOfSize 67 = .ok (.aload_n 0, 1) := by decide +kernel
theorem dX0_baseSetsOfSize_68 : decode cX0_baseSetsOfSize 68 = .ok (.getfield 23, 3) := by decide +kernel
theorem dX0_baseSetsOfSize_71 : decode cX0_baseSetsOfSize 71 = .ok (.areturn, 1) := by decide +kernel
theorem dX0_partOf_0 : decode cX0_partOf 0 = .ok (.aload_n 0, 1) := by decide +kernel
theorem dX0_partOf_1 : decode cX0_partOf 1 = .ok (.invokevirtual 71, 3) := by decide +kernel
theorem dX0_partOf_4 : decode cX0_partOf 4 = .ok (.aload_n 0, 1) := by decide +kernel
theorem dX0_partOf_5 : decode cX0_partOf 5 = .ok (.getfield 15, 3) := by decide +kernel
theorem dX0_partOf_8 : decode cX0_partOf 8 = .ok (.iconst 0, 1) := by decide +kernel
theorem dX0_partOf_9 : decode cX0_partOf 9 = .ok (.invokestatic 44, 3) := by decide +kernel
theorem dX0_partOf_12 : decode cX0_partOf 12 = .ok (.aload_n 0, 1) := by decide +kernel
theorem dX0_partOf_13 : decode cX0_partOf 13 = .ok (.getfield 15, 3) := by decide +kernel
theorem dX0_partOf_16 : decode cX0_partOf 16 = .ok (.iload_n 1, 1) := by decide +kernel
theorem dX0_partOf_17 : decode cX0_partOf 17 = .ok (.iconst 1, 1) := by decide +kernel
theorem dX0_partOf_18 : decode cX0_partOf 18 = .ok (.iastore, 1) := by decide +kernel
theorem dX0_partOf_19 : decode cX0_partOf 19 = .ok (.iload_n 1, 1) := by decide +kernel
theorem dX0_partOf_20 : decode cX0_partOf 20 = .ok (.istore_n 3, 1) := by decide +kernel
theorem dX0_partOf_21 : decode cX0_partOf 21 = .ok (.iload_n 3, 1) := by decide +kernel
theorem dX0_partOf_22 : decode cX0_partOf 22 = .ok (.iload_n 2, 1) := by decide +kernel
theorem dX0_partOf_23 : decode cX0_partOf 23 = .ok (.if_icmp .le 49, 3) := by decide +kernel
theorem dX0_partOf_26 : decode cX0_partOf 26 = .ok (.aload_n 0, 1) := by decide +kernel
theorem dX0_partOf_27 : decode cX0_partOf 27 = .ok (.getfield 15, 3) := by decide +kernel
theorem dX0_partOf_30 : decode cX0_partOf 30 = .ok (.iload_n 3, 1) := by decide +kernel
theorem dX0_partOf_31 : decode cX0_partOf 31 = .ok (.iaload, 1) := by decide +kernel
theorem dX0_partOf_32 : decode cX0_partOf 32 = .ok (.ifCond .eq 34, 3) := by decide +kernel
theorem dX0_partOf_35 : decode cX0_partOf 35 = .ok (.aload_n 0, 1) := by decide +kernel
theorem dX0_partOf_36 : decode cX0_partOf 36 = .ok (.getfield 9, 3) := by decide +kernel
theorem dX0_partOf_39 : decode cX0_partOf 39 = .ok (.iload_n 3, 1) := by decide +kernel
theorem dX0_partOf_40 : decode cX0_partOf 40 = .ok (.iaload, 1) := by decide +kernel
theorem dX0_partOf_41 : decode cX0_partOf 41 = .ok (.ifCond .eq 25, 3) := by decide +kernel
theorem dX0_partOf_44 : decode cX0_partOf 44 = .ok (.aload_n 0, 1) := by decide +kernel
theorem dX0_partOf_45 : decode cX0_partOf 45 = .ok (.getfield 35, 3) := by decide +kernel
theorem dX0_partOf_48 : decode cX0_partOf 48 = .ok (.iload_n 3, 1) := by decide +kernel
theorem dX0_partOf_49 : decode cX0_partOf 49 = .ok (.invokevirtual 78, 3) := by decide +kernel
theorem dX0_partOf_52 : decode cX0_partOf 52 = .ok (.ifCond .eq 14, 3) := by decide +kernel
theorem dX0_partOf_55 : decode cX0_partOf 55 = .ok (.aload_n 0, 1) := by decide +kernel
theorem dX0_partOf_56 : decode cX0_partOf 56 = .ok (.iload_n 3, 1) := by decide +kernel
theorem dX0_partOf_57 : decode cX0_partOf 57 = .ok (.aload_n 0, 1) := by decide +kernel
theorem dX0_partOf_58 : decode cX0_partOf 58 = .ok (.getfield 9, 3) := by decide +kernel
theorem dX0_partOf_61 : decode cX0_partOf 61 = .ok (.iload_n 3, 1) := by decide +kernel
theorem dX0_partOf_62 : decode cX0_partOf 62 = .ok (.iaload, 1) := by decide +kernel
theorem dX0_partOf_63 : decode cX0_partOf 63 = .ok (.invokevirtual 85, 3) := by decide +kernel
theorem dX0_partOf_66 : decode cX0_partOf 66 = .ok (.iinc 3 (-1), 3) := by decide +kernel
theorem dX0_partOf_69 : decode cX0_partOf 69 = .ok (.goto (-48), 3) := by decide +kernel
theorem dX0_partOf_72 : decode cX0_partOf 72 = .ok (.aload_n 0, 1) := by decide +kernel
theorem dX0_partOf_73 : decode cX0_partOf 73 = .ok (.getfield 35, 3) := by decide +kernel
theorem dX0_partOf_76 : decode cX0_partOf 76 = .ok (.iload_n 1, 1) := by decide +kernel
theorem dX0_partOf_77 : decode cX0_partOf 77 = .ok (.invokevirtual 78, 3) := by decide +kernel
theorem dX0_partOf_80 : decode cX0_partOf 80 = .ok (.ifCond .eq 12, 3) := by decide +kernel
theorem dX0_partOf_83 : decode cX0_partOf 83 = .ok (.aload_n 0, 1) := by decide +kernel
theorem dX0_partOf_84 : decode cX0_partOf 84 = .ok (.getfield 15, 3) := by decide +kernel
theorem dX0_partOf_87 : decode cX0_partOf 87 = .ok (.iload_n 2, 1) := by decide +kernel
theorem dX0_partOf_88 : decode cX0_partOf 88 = .ok (.iaload, 1) := by decide +kernel
theorem dX0_partOf_89 : decode cX0_partOf 89 = .ok (.goto 4, 3) := by decide +kernel
theorem dX0_partOf_92 : decode cX0_partOf 92 = .ok (.iconst 0, 1) := by decide +kernel
theorem dX0_partOf_93 : decode cX0_partOf 93 = .ok (.ireturn, 1) := by decide +kernel
theorem dX0_replace_0 : decode cX0_replace 0 = .ok (.iload_n 2, 1) := by decide +kernel
theorem dX0_replace_1 : decode cX0_replace 1 = .ok (.iload_n 2, 1) := by decide +kernel
theorem dX0_replace_2 : decode cX0_replace 2 = .ok (.ineg, 1) := by decide +kernel
theorem dX0_replace_3 : decode cX0_replace 3 = .ok (.iand, 1) := by decide +kernel
theorem dX0_replace_4 : decode cX0_replace 4 = .ok (.istore_n 3, 1) := by decide +kernel
theorem dX0_replace_5 : decode cX0_replace 5 = .ok (.iload_n 2, 1) := by decide +kernel
theorem dX0_replace_6 : decode cX0_replace 6 = .ok (.iload_n 3, 1) := by decide +kernel
theorem dX0_replace_7 : decode cX0_replace 7 = .ok (.ixor, 1) := by decide +kernel
theorem dX0_replace_8 : decode cX0_replace 8 = .ok (.istore 4, 2) := by decide +kernel
theorem dX0_replace_10 : decode cX0_replace 10 = .ok (.iconst 0, 1) := by decide +kernel
theorem dX0_replace_11 : decode cX0_replace 11 = .ok (.istore 5, 2) := by decide +kernel
theorem dX0_replace_13 : decode cX0_replace 13 = .ok (.iload 5, 2) := by decide +kernel
theorem dX0_replace_15 : decode cX0_replace 15 = .ok (.aload_n 0, 1) := by decide +kernel
theorem dX0_replace_16 : decode cX0_replace 16 = .ok (.getfield 31, 3) := by decide +kernel
theorem dX0_replace_19 : decode cX0_replace 19 = .ok (.getfield 68, 3) := by decide +kernel
theorem dX0_replace_22 : decode cX0_replace 22 = .ok (.if_icmp .ge 74, 3) := by decide +kernel
theorem dX0_replace_25 : decode cX0_replace 25 = .ok (.iconst 1, 1) := by decide +kernel
theorem dX0_replace_26 : decode cX0_replace 26 = .ok (.iload 5, 2) := by decide +kernel
theorem dX0_replace_28 : decode cX0_replace 28 = .ok (.ishl, 1) := by decide +kernel
theorem dX0_replace_29 : decode cX0_replace 29 = .ok (.istore 6, 2) := by decide +kernel
theorem dX0_replace_31 : decode cX0_replace 31 = .ok (.iload 4, 2) := by decide +kernel
theorem dX0_replace_33 : decode cX0_replace 33 = .ok (.iload 6, 2) := by decide +kernel
theorem dX0_replace_35 : decode cX0_replace 35 = .ok (.iand, 1) := by decide +kernel
theorem dX0_replace_36 : decode cX0_replace 36 = .ok (.ifCond .eq 54, 3) := by decide +kernel
theorem dX0_replace_39 : decode cX0_replace 39 = .ok (.iload_n 1, 1) := by decide +kernel
theorem dX0_replace_40 : decode cX0_replace 40 = .ok (.iload 6, 2) := by decide +kernel
theorem dX0_replace_42 : decode cX0_replace 42 = .ok (.iconst 1, 1) := by decide +kernel
theorem dX0_replace_43 : decode cX0_replace 43 = .ok (.isub, 1) := by decide +kernel
theorem dX0_replace_44 : decode cX0_replace 44 = .ok (.iand, 1) := by decide +kernel
theorem dX0_replace_45 : decode cX0_replace 45 = .ok (.iload_n 3, 1) := by decide +kernel
theorem dX0_replace_46 : decode cX0_replace 46 = .ok (.ineg, 1) := by decide +kernel
theorem dX0_replace_47 : decode cX0_replace 47 = .ok (.iand, 1) := by decide +kernel
theorem dX0_replace_48 : decode cX0_replace 48 = .ok (.istore 7, 2) := by decide +kernel
theorem dX0_replace_50 : decode cX0_replace 50 = .ok (.iload 7, 2) := by decide +kernel
theorem dX0_replace_52 : decode cX0_replace 52 = .ok (.invokestatic 72, 3) := by decide +kernel
theorem dX0_replace_55 : decode cX0_replace 55 = .ok (.iconst 1, 1) := by decide +kernel
theorem dX0_replace_56 : decode cX0_replace 56 = .ok (.iand, 1) := by decide +kernel
theorem dX0_replace_57 : decode cX0_replace 57 = .ok (.ifCond .ne 7, 3) := by decide +kernel
theorem dX0_replace_60 : decode cX0_replace 60 = .ok (.iconst 1, 1) := by decide +kernel
theorem dX0_replace_61 : decode cX0_replace 61 = .ok (.goto 4, 3) := by decide +kernel
theorem dX0_replace_64 : decode cX0_replace 64 = .ok (.iconst (-1), 1) := by decide +kernel
theorem dX0_replace_65 : decode cX0_replace 65 = .ok (.istore 8, 2) := by decide +kernel
theorem dX0_replace_67 : decode cX0_replace 67 = .ok (.aload_n 0, 1) := by decide +kernel
theorem dX0_replace_68 : decode cX0_replace 68 = .ok (.getfield 15, 3) := by decide +kernel
theorem dX0_replace_71 : decode cX0_replace 71 = .ok (.iload_n 1, 1) := by decide +kernel
theorem dX0_replace_72 : decode cX0_replace 72 = .ok (.iload 6, 2) := by decide +kernel
theorem dX0_replace_74 : decode cX0_replace 74 = .ok (.ixor, 1) := by decide +kernel
theorem dX0_replace_75 : decode cX0_replace 75 = .ok (.iload_n 3, 1) := by decide +kernel
theorem dX0_replace_76 : decode cX0_replace 76 = .ok (.ior, 1) := by decide +kernel
theorem dX0_replace_77 : decode cX0_replace 77 = .ok (.dup2, 1) := by decide +kernel
theorem dX0_replace_78 : decode cX0_replace 78 = .ok (.iaload, 1) := by decide +kernel
theorem dX0_replace_79 : decode cX0_replace 79 = .ok (.iload 8, 2) := by decide +kernel
theorem dX0_replace_81 : decode cX0_replace 81 = .ok (.aload_n 0, 1) := by decide +kernel
theorem dX0_replace_82 : decode cX0_replace 82 = .ok (.getfield 15, 3) := by decide +kernel
theorem dX0_replace_85 : decode cX0_replace 85 = .ok (.iload_n 1, 1) := by decide +kernel
theorem dX0_replace_86 : decode cX0_replace 86 = .ok (.iaload, 1) := by decide +kernel
theorem dX0_replace_87 : decode cX0_replace 87 = .ok (.imul, 1) := by decide +kernel
theorem dX0_replace_88 : decode cX0_replace 88 = .ok (.iadd, 1) := by decide +kernel
theorem dX0_replace_89 : decode cX0_replace 89 = .ok (.iastore, 1) := by decide +kernel
theorem dX0_replace_90 : decode cX0_replace 90 = .ok (.iinc 5 1, 3) := by decide +kernel
theorem dX0_replace_93 : decode cX0_replace 93 = .ok (.goto (-80), 3) := by decide +kernel
theorem dX0_replace_96 : decode cX0_replace 96 = .ok (.return_, 1) := by decide +kernel
theorem dX1_init_0 : decode cX1_init 0 = .ok (.aload_n 0, 1) := by decide +kernel
theorem dX1_init_1 : decode cX1_init 1 = .ok (.invokespecial 3, 3) := by decide +kernel
theorem dX1_init_4 : decode cX1_init 4 = .ok (.aload_n 0, 1) := by decide +kernel
theorem dX1_init_5 : decode cX1_init 5 = .ok (.bipush 36, 2) := by decide +kernel
theorem dX1_init_7 : decode cX1_init 7 = .ok (.newarray .int, 2) := by decide +kernel
theorem dX1_init_9 : decode cX1_init 9 = .ok (.putfield 9, 3) := by decide +kernel
theorem dX1_init_12 : decode cX1_init 12 = .ok (.aload_n 0, 1) := by decide +kernel
theorem dX1_init_13 : decode cX1_init 13 = .ok (.iconst 3, 1) := by decide +kernel
theorem dX1_init_14 : decode cX1_init 14 = .ok (.putfield 15, 3) := by decide +kernel
theorem dX1_init_17 : decode cX1_init 17 = .ok (.return_, 1) := by decide +kernel
theorem dX1_all_0 : decode cX1_all 0 = .ok (.iconst 1, 1) := by decide +kernel
theorem dX1_all_1 : decode cX1_all 1 = .ok (.aload_n 0, 1) := by decide +kernel
theorem dX1_all_2 : decode cX1_all 2 = .ok (.getfield 19, 3) := by decide +kernel
theorem dX1_all_5 : decode cX1_all 5 = .ok (.ishl, 1) := by decide +kernel
theorem dX1_all_6 : decode cX1_all 6 = .ok (.iconst 1, 1) := by decide +kernel
theorem dX1_all_7 : decode cX1_all 7 = .ok (.isub, 1) := by decide +kernel
theorem dX1_all_8 : decode cX1_all 8 = .ok (.ireturn, 1) := by decide +kernel
theorem dX1_has_0 : decode cX1_has 0 = .ok (.iload_n 1, 1) := by decide +kernel
theorem dX1_has_1 : decode cX1_has 1 = .ok (.ifCond .lt 15, 3) := by decide +kernel
theorem dX1_has_4 : decode cX1_has 4 = .ok (.iload_n 1, 1) := by decide +kernel
theorem dX1_has_5 : decode cX1_has 5 = .ok (.aload_n 0, 1) := by decide +kernel
theorem dX1_has_6 : decode cX1_has 6 = .ok (.getfield 19, 3) := by decide +kernel
theorem dX1_has_9 : decode cX1_has 9 = .ok (.if_icmp .ge 7, 3) := by decide +kernel
theorem dX1_has_12 : decode cX1_has 12 = .ok (.iconst 1, 1) := by decide +kernel
theorem dX1_has_13 : decode cX1_has 13 = .ok (.goto 4, 3) := by decide +kernel
theorem dX1_has_16 : decode cX1_has 16 = .ok (.iconst 0, 1) := by decide +kernel
theorem dX1_has_17 : decode cX1_has 17 = .ok (.ireturn, 1) := by decide +kernel
theorem dX1_hasAll_0 : decode cX1_hasAll 0 = .ok (.iload_n 1, 1) := by decide +kernel
theorem dX1_hasAll_1 : decode cX1_hasAll 1 = .ok (.ifCond .lt 15, 3) := by decide +kernel
theorem dX1_hasAll_4 : decode cX1_hasAll 4 = .ok (.iload_n 1, 1) := by decide +kernel
theorem dX1_hasAll_5 : decode cX1_hasAll 5 = .ok (.aload_n 0, 1) := by decide +kernel
theorem dX1_hasAll_6 : decode cX1_hasAll 6 = .ok (.invokevirtual 22, 3) := by decide +kernel
theorem dX1_hasAll_9 : decode cX1_hasAll 9 = .ok (.if_icmp .gt 7, 3) := by decide +kernel
theorem dX1_hasAll_12 : decode cX1_hasAll 12 = .ok (.iconst 1, 1) := by decide +kernel
theorem dX1_hasAll_13 : decode cX1_hasAll 13 = .ok (.goto 4, 3) := by decide +kernel
theorem dX1_hasAll_16 : decode cX1_hasAll 16 = .ok (.iconst 0, 1) := by decide +kernel
theorem dX1_hasAll_17 : decode cX1_hasAll 17 = .ok (.ireturn, 1) := by decide +kernel
theorem dX1_at_0 : decode cX1_at 0 = .ok (.aload_n 0, 1) := by decide +kernel
theorem dX1_at_1 : decode cX1_at 1 = .ok (.getfield 9, 3) := by decide +kernel
theorem dX1_at_4 : decode cX1_at 4 = .ok (.iload_n 1, 1) := by decide +kernel
theorem dX1_at_5 : decode cX1_at 5 = .ok (.iconst 4, 1) := by decide +kernel
theorem dX1_at_6 : decode cX1_at 6 = .ok (.imul, 1) := by decide +kernel
theorem dX1_at_7 : decode cX1_at 7 = .ok (.iload_n 2, 1) := by decide +kernel
theorem dX1_at_8 : decode cX1_at 8 = .ok (.iadd, 1) := by decide +kernel
theorem dX1_at_9 : decode cX1_at 9 = .ok (.iaload, 1) := by decide +kernel
theorem dX1_at_10 : decode cX1_at 10 = .ok (.ireturn, 1) := by decide +kernel
theorem dX1_copyFrom_0 : decode cX1_copyFrom 0 = .ok (.aload_n 1, 1) := by decide +kernel
theorem dX1_copyFrom_1 : decode cX1_copyFrom 1 = .ok (.getfield 9, 3) := by decide +kernel
theorem dX1_copyFrom_4 : decode cX1_copyFrom 4 = .ok (.iconst 0, 1) := by decide +kernel
theorem dX1_copyFrom_5 : decode cX1_copyFrom 5 = .ok (.aload_n 0, 1) := by decide +kernel
theorem dX1_copyFrom_6 : decode cX1_copyFrom 6 = .ok (.getfield 9, 3) := by decide +kernel
theorem dX1_copyFrom_9 : decode cX1_copyFrom 9 = .ok (.iconst 0, 1) := by decide +kernel
theorem dX1_copyFrom_10 : decode cX1_copyFrom 10 = .ok (.aload_n 0, 1) := by decide +kernel
theorem dX1_copyFrom_11 : decode cX1_copyFrom 11 = .ok (.getfield 9, 3) := by decide +kernel
theorem dX1_copyFrom_14 : decode cX1_copyFrom 14 = .ok (.arraylength, 1) := by decide +kernel
theorem dX1_copyFrom_15 : decode cX1_copyFrom 15 = .ok (.invokestatic 26, 3) := by decide +kernel
theorem dX1_copyFrom_18 : decode cX1_copyFrom 18 = .ok (.aload_n 0, 1) := by decide +kernel
theorem dX1_copyFrom_19 : decode cX1_copyFrom 19 = .ok (.aload_n 1, 1) := by decide +kernel
theorem dX1_copyFrom_20 : decode cX1_copyFrom 20 = .ok (.getfield 15, 3) := by decide +kernel
theorem dX1_copyFrom_23 : decode cX1_copyFrom 23 = .ok (.putfield 15, 3) := by decide +kernel
theorem dX1_copyFrom_26 : decode cX1_copyFrom 26 = .ok (.aload_n 0, 1) := by decide +kernel
theorem dX1_copyFrom_27 : decode cX1_copyFrom 27 = .ok (.aload_n 1, 1) := by decide +kernel
theorem dX1_copyFrom_28 : decode cX1_copyFrom 28 = .ok (.getfield 19, 3) := by decide +kernel
theorem dX1_copyFrom_31 : decode cX1_copyFrom 31 = .ok (.putfield 19, 3) := by decide +kernel
theorem dX1_copyFrom_34 : decode cX1_copyFrom 34 = .ok (.aload_n 0, 1) := by decide +kernel
theorem dX1_copyFrom_35 : decode cX1_copyFrom 35 = .ok (.dup, 1) := by decide +kernel
theorem dX1_copyFrom_36 : decode cX1_copyFrom 36 = .ok (.getfield 32, 3) := by decide +kernel
theorem dX1_copyFrom_39 : decode cX1_copyFrom 39 = .ok (.iconst 1, 1) := by decide +kernel
theorem dX1_copyFrom_40 : decode cX1_copyFrom 40 = .ok (.iadd, 1) := by decide +kernel
theorem dX1_copyFrom_41 : decode cX1_copyFrom 41 = .ok (.putfield 32, 3) := by decide +kernel
theorem dX1_copyFrom_44 : decode cX1_copyFrom 44 = .ok (.return_, 1) := by decide +kernel
theorem dX1_restart_0 : decode cX1_restart 0 = .ok (.iload_n 1, 1) := by decide +kernel
theorem dX1_restart_1 : decode cX1_restart 1 = .ok (.iconst 2, 1) := by decide +kernel
theorem dX1_restart_2 : decode cX1_restart 2 = .ok (.if_icmp .lt 8, 3) := by decide +kernel
theorem dX1_restart_5 : decode cX1_restart 5 = .ok (.iload_n 1, 1) := by decide +kernel
theorem dX1_restart_6 : decode cX1_restart 6 = .ok (.iconst 4, 1) := by decide +kernel
theorem dX1_restart_7 : decode cX1_restart 7 = .ok (.if_icmp .le 6, 3) := by decide +kernel
theorem dX1_restart_10 : decode cX1_restart 10 = .ok (.bipush (-2), 2) := by decide +kernel
theorem dX1_restart_12 : decode cX1_restart 12 = .ok (.ireturn, 1) := by decide +kernel
theorem dX1_restart_13 : decode cX1_restart 13 = .ok (.aload_n 0, 1) := by decide +kernel
theorem dX1_restart_14 : decode cX1_restart 14 = .ok (.getfield 15, 3) := by decide +kernel
theorem dX1_restart_17 : decode cX1_restart 17 = .ok (.istore_n 2, 1) := by decide +kernel
theorem dX1_restart_18 : decode cX1_restart 18 = .ok (.aload_n 0, 1) := by decide +kernel
theorem dX1_restart_19 : decode cX1_restart 19 = .ok (.iload_n 1, 1) := by decide +kernel
theorem dX1_restart_20 : decode cX1_restart 20 = .ok (.putfield 15, 3) := by decide +kernel
theorem dX1_restart_23 : decode cX1_restart 23 = .ok (.aload_n 0, 1) := by decide +kernel
theorem dX1_restart_24 : decode cX1_restart 24 = .ok (.iconst 0, 1) := by decide +kernel
theorem dX1_restart_25 : decode cX1_restart 25 = .ok (.putfield 19, 3) := by decide +kernel
theorem dX1_restart_28 : decode cX1_restart 28 = .ok (.aload_n 0, 1) := by decide +kernel
theorem dX1_restart_29 : decode cX1_restart 29 = .ok (.dup, 1) := by decide +kernel
theorem dX1_restart_30 : decode cX1_restart 30 = .ok (.getfield 32, 3) := by decide +kernel
theorem dX1_restart_33 : decode cX1_restart 33 = .ok (.iconst 1, 1) := by decide +kernel
theorem dX1_restart_34 : decode cX1_restart 34 = .ok (.iadd, 1) := by decide +kernel
theorem dX1_restart_35 : decode cX1_restart 35 = .ok (.putfield 32, 3) := by decide +kernel
theorem dX1_restart_38 : decode cX1_restart 38 = .ok (.iload_n 2, 1) := by decide +kernel
theorem dX1_restart_39 : decode cX1_restart 39 = .ok (.ireturn, 1) := by decide +kernel
theorem dX1_add_0 : decode cX1_add 0 = .ok (.iload_n 1, 1) := by decide +kernel
theorem dX1_add_1 : decode cX1_add 1 = .ok (.invokestatic 35, 3) := by decide +kernel
theorem dX1_add_4 : decode cX1_add 4 = .ok (.ifCond .eq 25, 3) := by decide +kernel
theorem dX1_add_7 : decode cX1_add 7 = .ok (.iload_n 2, 1) := by decide +kernel
theorem dX1_add_8 : decode cX1_add 8 = .ok (.invokestatic 35, 3) := by decide +kernel
theorem dX1_add_11 : decode cX1_add 11 = .ok (.ifCond .eq 18, 3) := by decide +kernel
theorem dX1_add_14 : decode cX1_add 14 = .ok (.iload_n 3, 1) := by decide +kernel
theorem dX1_add_15 : decode cX1_add 15 = .ok (.invokestatic 35, 3) := by decide +kernel
theorem dX1_add_18 : decode cX1_add 18 = .ok (.ifCond .eq 11, 3) := by decide +kernel
theorem dX1_add_21 : decode cX1_add 21 = .ok (.iload 4, 2) := by decide +kernel
theorem dX1_add_23 : decode cX1_add 23 = .ok (.invokestatic 35, 3) := by decide +kernel
theorem dX1_add_26 : decode cX1_add 26 = .ok (.ifCond .ne 6, 3) := by decide +kernel
theorem dX1_add_29 : decode cX1_add 29 = .ok (.bipush (-2), 2) := by decide +kernel
theorem dX1_add_31 : decode cX1_add 31 = .ok (.ireturn, 1) := by decide +kernel
theorem dX1_add_32 : decode cX1_add 32 = .ok (.iload_n 1, 1) := by decide +kernel
theorem dX1_add_33 : decode cX1_add 33 = .ok (.ifCond .ne 19, 3) := by decide +kernel
theorem dX1_add_36 : decode cX1_add 36 = .ok (.iload_n 2, 1) := by decide +kernel
theorem dX1_add_37 : decode cX1_add 37 = .ok (.ifCond .ne 15, 3) := by decide +kernel
theorem dX1_add_40 : decode cX1_add 40 = .ok (.iload_n 3, 1) := by decide +kernel
theorem dX1_add_41 : decode cX1_add 41 = .ok (.ifCond .ne 11, 3) := by decide +kernel
theorem dX1_add_44 : decode cX1_add 44 = .ok (.iload 4, 2) := by decide +kernel
theorem dX1_add_46 : decode cX1_add 46 = .ok (.ifCond .ne 6, 3) := by decide +kernel
theorem dX1_add_49 : decode cX1_add 49 = .ok (.bipush (-2), 2) := by decide +kernel
theorem dX1_add_51 : decode cX1_add 51 = .ok (.ireturn, 1) := by decide +kernel
theorem dX1_add_52 : decode cX1_add 52 = .ok (.aload_n 0, 1) := by decide +kernel
theorem dX1_add_53 : decode cX1_add 53 = .ok (.getfield 15, 3) := by decide +kernel
theorem dX1_add_56 : decode cX1_add 56 = .ok (.iconst 3, 1) := by decide +kernel
theorem dX1_add_57 : decode cX1_add 57 = .ok (.if_icmp .ge 7, 3) := by decide +kernel
theorem dX1_add_60 : decode cX1_add 60 = .ok (.iload_n 3, 1) := by decide +kernel
theorem dX1_add_61 : decode cX1_add 61 = .ok (.ifCond .ne 16, 3) := by decide +kernel
theorem dX1_add_64 : decode cX1_add 64 = .ok (.aload_n 0, 1) := by decide +kernel
theorem dX1_add_65 : decode cX1_add 65 = .ok (.getfield 15, 3) := by decide +kernel
theorem dX1_add_68 : decode cX1_add 68 = .ok (.iconst 4, 1) := by decide +kernel
theorem dX1_add_69 : decode cX1_add 69 = .ok (.if_icmp .ge 11, 3) := by decide +kernel
theorem dX1_add_72 : decode cX1_add 72 = .ok (.iload 4, 2) := by decide +kernel
theorem dX1_add_74 : decode cX1_add 74 = .ok (.ifCond .eq 6, 3) := by decide +kernel
theorem dX1_add_77 : decode cX1_add 77 = .ok (.bipush (-2), 2) := by decide +kernel
theorem dX1_add_79 : decode cX1_add 79 = .ok (.ireturn, 1) := by decide +kernel
theorem dX1_add_80 : decode cX1_add 80 = .ok (.iconst 0, 1) := by decide +kernel
theorem dX1_add_81 : decode cX1_add 81 = .ok (.istore 5, 2) := by decide +kernel
theorem dX1_add_83 : decode cX1_add 83 = .ok (.iload 5, 2) := by decide +kernel
theorem dX1_add_85 : decode cX1_add 85 = .ok (.aload_n 0, 1) := by decide +kernel
theorem dX1_add_86 : decode cX1_add 86 = .ok (.getfield 19, 3) := by decide +kernel
theorem dX1_add_89 : decode cX1_add 89 = .ok (.if_icmp .ge 26, 3) := by decide +kernel
theorem dX1_add_92 : decode cX1_add 92 = .ok (.aload_n 0, 1) := by decide +kernel
theorem dX1_add_93 : decode cX1_add 93 = .ok (.iload 5, 2) := by decide +kernel
theorem dX1_add_95 : decode cX1_add 95 = .ok (.iload_n 1, 1) := by decide +kernel
theorem dX1_add_96 : decode cX1_add 96 = .ok (.iload_n 2, 1) := by decide +kernel
theorem dX1_add_97 : decode cX1_add 97 = .ok (.iload_n 3, 1) := by decide +kernel
theorem dX1_add_98 : decode cX1_add 98 = .ok (.iload 4, 2) := by decide +kernel
theorem dX1_add_100 : decode cX1_add 100 = .ok (.invokevirtual 39, 3) := by decide +kernel
theorem dX1_add_103 : decode cX1_add 103 = .ok (.ifCond .eq 6, 3) := by decide +kernel
theorem dX1_add_106 : decode cX1_add 106 = .ok (.bipush (-3), 2) := by decide +kernel
theorem dX1_add_108 : decode cX1_add 108 = .ok (.ireturn, 1) := by decide +kernel
theorem dX1_add_109 : decode cX1_add 109 = .ok (.iinc 5 1, 3) := by decide +kernel
theorem dX1_add_112 : decode cX1_add 112 = .ok (.goto (-29), 3) := by decide +kernel
theorem dX1_add_115 : decode cX1_add 115 = .ok (.aload_n 0, 1) := by decide +kernel
theorem dX1_add_116 : decode cX1_add 116 = .ok (.getfield 19, 3) := by decide +kernel
theorem dX1_add_119 : decode cX1_add 119 = .ok (.bipush 9, 2) := by decide +kernel
theorem dX1_add_121 : decode cX1_add 121 = .ok (.if_icmp .lt 8, 3) := by decide +kernel
theorem dX1_add_124 : decode cX1_add 124 = .ok (.bipush (-4), 2) := by decide +kernel
theorem dX1_add_126 : decode cX1_add 126 = .ok (.goto 12, 3) := by decide +kernel
theorem dX1_add_129 : decode cX1_add 129 = .ok (.aload_n 0, 1) := by decide +kernel
theorem dX1_add_130 : decode cX1_add 130 = .ok (.iload_n 1, 1) := by decide +kernel
theorem dX1_add_131 : decode cX1_add 131 = .ok (.iload_n 2, 1) := by decide +kernel
theorem dX1_add_132 : decode cX1_add 132 = .ok (.iload_n 3, 1) := by decide +kernel
theorem dX1_add_133 : decode cX1_add 133 = .ok (.iload 4, 2) := by decide +kernel
theorem dX1_add_135 : decode cX1_add 135 = .ok (.invokevirtual 43, 3) := by decide +kernel
theorem dX1_add_138 : decode cX1_add 138 = .ok (.ireturn, 1) := by decide +kernel
theorem dX1_isCoefficient_0 : decode cX1_isCoefficient 0 = .ok (.iload_n 0, 1) := by decide +kernel
theorem dX1_isCoefficient_1 : decode cX1_isCoefficient 1 = .ok (.bipush (-3), 2) := by decide +kernel
theorem dX1_isCoefficient_3 : decode cX1_isCoefficient 3 = .ok (.if_icmp .lt 12, 3) := by decide +kernel
theorem dX1_isCoefficient_6 : decode cX1_isCoefficient 6 = .ok (.iload_n 0, 1) := by decide +kernel
theorem dX1_isCoefficient_7 : decode cX1_isCoefficient 7 = .ok (.iconst 3, 1) := by decide +kernel
theorem dX1_isCoefficient_8 : decode cX1_isCoefficient 8 = .ok (.if_icmp .gt 7, 3) := by decide +kernel
theorem dX1_isCoefficient_11 : decode cX1_isCoefficient 11 = .ok (.iconst 1, 1) := by decide +kernel
theorem dX1_isCoefficient_12 : decode cX1_isCoefficient 12 = .ok (.goto 4, 3) := by decide +kernel
theorem dX1_isCoefficient_15 : decode cX1_isCoefficient 15 = .ok (.iconst 0, 1) := by decide +kernel
theorem dX1_isCoefficient_16 : decode cX1_isCoefficient 16 = .ok (.ireturn, 1) := by decide +kernel
theorem dX1_isSame_0 : decode cX1_isSame 0 = .ok (.aload_n 0, 1) := by decide +kernel
theorem dX1_isSame_1 : decode cX1_isSame 1 = .ok (.iload_n 1, 1) := by decide +kernel
theorem dX1_isSame_2 : decode cX1_isSame 2 = .ok (.iconst 0, 1) := by decide +kernel
theorem dX1_isSame_3 : decode cX1_isSame 3 = .ok (.invokevirtual 47, 3) := by decide +kernel
theorem dX1_isSame_6 : decode cX1_isSame 6 = .ok (.istore 6, 2) := by decide +kernel
theorem dX1_isSame_8 : decode cX1_isSame 8 = .ok (.aload_n 0, 1) := by decide +kernel
theorem dX1_isSame_9 : decode cX1_isSame 9 = .ok (.iload_n 1, 1) := by decide +kernel
theorem dX1_isSame_10 : decode cX1_isSame 10 = .ok (.iconst 1, 1) := by decide +kernel
theorem dX1_isSame_11 : decode cX1_isSame 11 = .ok (.invokevirtual 47, 3) := by decide +kernel
theorem dX1_isSame_14 : decode cX1_isSame 14 = .ok (.istore 7, 2) := by decide +kernel
theorem dX1_isSame_16 : decode cX1_isSame 16 = .ok (.aload_n 0, 1) := by decide +kernel
theorem dX1_isSame_17 : decode cX1_isSame 17 = .ok (.iload_n 1, 1) := by decide +kernel
theorem dX1_isSame_18 : decode cX1_isSame 18 = .ok (.iconst 2, 1) := by decide +kernel
theorem dX1_isSame_19 : decode cX1_isSame 19 = .ok (.invokevirtual 47, 3) := by decide +kernel
theorem dX1_isSame_22 : decode cX1_isSame 22 = .ok (.istore 8, 2) := by decide +kernel
theorem dX1_isSame_24 : decode cX1_isSame 24 = .ok (.aload_n 0, 1) := by decide +kernel
theorem dX1_isSame_25 : decode cX1_isSame 25 = .ok (.iload_n 1, 1) := by decide +kernel
theorem dX1_isSame_26 : decode cX1_isSame 26 = .ok (.iconst 3, 1) := by decide +kernel
theorem dX1_isSame_27 : decode cX1_isSame 27 = .ok (.invokevirtual 47, 3) := by decide +kernel
theorem dX1_isSame_30 : decode cX1_isSame 30 = .ok (.istore 9, 2) := by decide +kernel
theorem dX1_isSame_32 : decode cX1_isSame 32 = .ok (.iload 6, 2) := by decide +kernel
theorem dX1_isSame_34 : decode cX1_isSame 34 = .ok (.iload_n 3, 1) := by decide +kernel
theorem dX1_isSame_35 : decode cX1_isSame 35 = .ok (.imul, 1) := by decide +kernel
theorem dX1_isSame_36 : decode cX1_isSame 36 = .ok (.iload 7, 2) := by decide +kernel
theorem dX1_isSame_38 : decode cX1_isSame 38 = .ok (.iload_n 2, 1) := by decide +kernel
theorem dX1_isSame_39 : decode cX1_isSame 39 = .ok (.imul, 1) := by decide +kernel
theorem dX1_isSame_40 : decode cX1_isSame 40 = .ok (.if_icmp .ne 68, 3) := by decide +kernel
theorem dX1_isSame_43 : decode cX1_isSame 43 = .ok (.iload 6, 2) := by decide +kernel
theorem dX1_isSame_45 : decode cX1_isSame 45 = .ok (.iload 4, 2) := by decide +kernel
theorem dX1_isSame_47 : decode cX1_isSame 47 = .ok (.imul, 1) := by decide +kernel
theorem dX1_isSame_48 : decode cX1_isSame 48 = .ok (.iload 8, 2) := by decide +kernel
theorem dX1_isSame_50 : decode cX1_isSame 50 = .ok (.iload_n 2, 1) := by decide +kernel
theorem dX1_isSame_51 : decode cX1_isSame 51 = .ok (.imul, 1) := by decide +kernel
theorem dX1_isSame_52 : decode cX1_isSame 52 = .ok (.if_icmp .ne 56, 3) := by decide +kernel
theorem dX1_isSame_55 : decode cX1_isSame 55 = .ok (.iload 6, 2) := by decide +kernel
theorem dX1_isSame_57 : decode cX1_isSame 57 = .ok (.iload 5, 2) := by decide +kernel
theorem dX1_isSame_59 : decode cX1_isSame 59 = .ok (.imul, 1) := by decide +kernel
theorem dX1_isSame_60 : decode cX1_isSame 60 = .ok (.iload 9, 2) := by decide +kernel
theorem dX1_isSame_62 : decode cX1_isSame 62 = .ok (.iload_n 2, 1) := by decide +kernel
theorem dX1_isSame_63 : decode cX1_isSame 63 = .ok (.imul, 1) := by decide +kernel
theorem dX1_isSame_64 : decode cX1_isSame 64 = .ok (.if_icmp .ne 44, 3) := by decide +kernel
theorem dX1_isSame_67 : decode cX1_isSame 67 = .ok (.iload 7, 2) := by decide +kernel
theorem dX1_isSame_69 : decode cX1_isSame 69 = .ok (.iload 4, 2) := by decide +kernel
theorem dX1_isSame_71 : decode cX1_isSame 71 = .ok (.imul, 1) := by decide +kernel
theorem dX1_isSame_72 : decode cX1_isSame 72 = .ok (.iload 8, 2) := by decide +kernel
theorem dX1_isSame_74 : decode cX1_isSame 74 = .ok (.iload_n 3, 1) := by decide +kernel
theorem dX1_isSame_75 : decode cX1_isSame 75 = .ok (.imul, 1) := by decide +kernel
theorem dX1_isSame_76 : decode cX1_isSame 76 = .ok (.if_icmp .ne 32, 3) := by decide +kernel
theorem dX1_isSame_79 : decode cX1_isSame 79 = .ok (.iload 7, 2) := by decide +kernel
theorem dX1_isSame_81 : decode cX1_isSame 81 = .ok (.iload 5, 2) := by decide +kernel
theorem dX1_isSame_83 : decode cX1_isSame 83 = .ok (.imul, 1) := by decide +kernel
theorem dX1_isSame_84 : decode cX1_isSame 84 = .ok (.iload 9, 2) := by decide +kernel
theorem dX1_isSame_86 : decode cX1_isSame 86 = .ok (.iload_n 3, 1) := by decide +kernel
theorem dX1_isSame_87 : decode cX1_isSame 87 = .ok (.imul, 1) := by decide +kernel
theorem dX1_isSame_88 : decode cX1_isSame 88 = .ok (.if_icmp .ne 20, 3) := by decide +kernel
theorem dX1_isSame_91 : decode cX1_isSame 91 = .ok (.iload 8, 2) := by decide +kernel
theorem dX1_isSame_93 : decode cX1_isSame 93 = .ok (.iload 5, 2) := by decide +kernel
theorem dX1_isSame_95 : decode cX1_isSame 95 = .ok (.imul, 1) := by decide +kernel
theorem dX1_isSame_96 : decode cX1_isSame 96 = .ok (.iload 9, 2) := by decide +kernel
theorem dX1_isSame_98 : decode cX1_isSame 98 = .ok (.iload 4, 2) := by decide +kernel
theorem dX1_isSame_100 : decode cX1_isSame 100 = .ok (.imul, 1) := by decide +kernel
theorem dX1_isSame_101 : decode cX1_isSame 101 = .ok (.if_icmp .ne 7, 3) := by decide +kernel
theorem dX1_isSame_104 : decode cX1_isSame 104 = .ok (.iconst 1, 1) := by decide +kernel
theorem dX1_isSame_105 : decode cX1_isSame 105 = .ok (.goto 4, 3) := by decide +kernel
theorem dX1_isSame_108 : decode cX1_isSame 108 = .ok (.iconst 0, 1) := by decide +kernel
theorem dX1_isSame_109 : decode cX1_isSame 109 = .ok (.ireturn, 1) := by decide +kernel
theorem dX1_put_0 : decode cX1_put 0 = .ok (.aload_n 0, 1) := by decide +kernel
theorem dX1_put_1 : decode cX1_put 1 = .ok (.getfield 19, 3) := by decide +kernel
theorem dX1_put_4 : decode cX1_put 4 = .ok (.iconst 4, 1) := by decide +kernel
theorem dX1_put_5 : decode cX1_put 5 = .ok (.imul, 1) := by decide +kernel
theorem dX1_put_6 : decode cX1_put 6 = .ok (.istore 5, 2) := by decide +kernel
theorem dX1_put_8 : decode cX1_put 8 = .ok (.aload_n 0, 1) := by decide +kernel
theorem dX1_put_9 : decode cX1_put 9 = .ok (.getfield 9, 3) := by decide +kernel
theorem dX1_put_12 : decode cX1_put 12 = .ok (.iload 5, 2) := by decide +kernel
theorem dX1_put_14 : decode cX1_put 14 = .ok (.iload_n 1, 1) := by decide +kernel
theorem dX1_put_15 : decode cX1_put 15 = .ok (.iastore, 1) := by decide +kernel
theorem dX1_put_16 : decode cX1_put 16 = .ok (.aload_n 0, 1) := by decide +kernel
theorem dX1_put_17 : decode cX1_put 17 = .ok (.getfield 9, 3) := by decide +kernel
theorem dX1_put_20 : decode cX1_put 20 = .ok (.iload 5, 2) := by decide +kernel
theorem dX1_put_22 : decode cX1_put 22 = .ok (.iconst 1, 1) := by decide +kernel
theorem dX1_put_23 : decode cX1_put 23 = .ok (.iadd, 1) := by decide +kernel
theorem dX1_put_24 : decode cX1_put 24 = .ok (.iload_n 2, 1) := by decide +kernel
theorem dX1_put_25 : decode cX1_put 25 = .ok (.iastore, 1) := by decide +kernel
theorem dX1_put_26 : decode cX1_put 26 = .ok (.aload_n 0, 1) := by decide +kernel
theorem dX1_put_27 : decode cX1_put 27 = .ok (.getfield 9, 3) := by decide +kernel
theorem dX1_put_30 : decode cX1_put 30 = .ok (.iload 5, 2) := by decide +kernel
theorem dX1_put_32 : decode cX1_put 32 = .ok (.iconst 2, 1) := by decide +kernel
theorem dX1_put_33 : decode cX1_put 33 = .ok (.iadd, 1) := by decide +kernel
theorem dX1_put_34 : decode cX1_put 34 = .ok (.iload_n 3, 1) := by decide +kernel
theorem dX1_put_35 : decode cX1_put 35 = .ok (.iastore, 1) := by decide +kernel
theorem dX1_put_36 : decode cX1_put 36 = .ok (.aload_n 0, 1) := by decide +kernel
theorem dX1_put_37 : decode cX1_put 37 = .ok (.getfield 9, 3) := by decide +kernel
theorem dX1_put_40 : decode cX1_put 40 = .ok (.iload 5, 2) := by decide +kernel
theorem dX1_put_42 : decode cX1_put 42 = .ok (.iconst 3, 1) := by decide +kernel
theorem dX1_put_43 : decode cX1_put 43 = .ok (.iadd, 1) := by decide +kernel
theorem dX1_put_44 : decode cX1_put 44 = .ok (.iload 4, 2) := by decide +kernel
theorem dX1_put_46 : decode cX1_put 46 = .ok (.iastore, 1) := by decide +kernel
theorem dX1_put_47 : decode cX1_put 47 = .ok (.aload_n 0, 1) := by decide +kernel
theorem dX1_put_48 : decode cX1_put 48 = .ok (.dup, 1) := by decide +kernel
theorem dX1_put_49 : decode cX1_put 49 = .ok (.getfield 19, 3) := by decide +kernel
theorem dX1_put_52 : decode cX1_put 52 = .ok (.iconst 1, 1) := by decide +kernel
theorem dX1_put_53 : decode cX1_put 53 = .ok (.iadd, 1) := by decide +kernel
theorem dX1_put_54 : decode cX1_put 54 = .ok (.putfield 19, 3) := by decide +kernel
theorem dX1_put_57 : decode cX1_put 57 = .ok (.aload_n 0, 1) := by decide +kernel
theorem dX1_put_58 : decode cX1_put 58 = .ok (.dup, 1) := by decide +kernel
theorem dX1_put_59 : decode cX1_put 59 = .ok (.getfield 32, 3) := by decide +kernel
theorem dX1_put_62 : decode cX1_put 62 = .ok (.iconst 1, 1) := by decide +kernel
theorem dX1_put_63 : decode cX1_put 63 = .ok (.iadd, 1) := by decide +kernel
theorem dX1_put_64 : decode cX1_put 64 = .ok (.putfield 32, 3) := by decide +kernel
theorem dX1_put_67 : decode cX1_put 67 = .ok (.aload_n 0, 1) := by decide +kernel
theorem dX1_put_68 : decode cX1_put 68 = .ok (.getfield 19, 3) := by decide +kernel
theorem dX1_put_71 : decode cX1_put 71 = .ok (.iconst 1, 1) := by decide +kernel
theorem dX1_put_72 : decode cX1_put 72 = .ok (.isub, 1) := by decide +kernel
theorem dX1_put_73 : decode cX1_put 73 = .ok (.ireturn, 1) := by decide +kernel
theorem dX1_negate_0 : decode cX1_negate 0 = .ok (.aload_n 0, 1) := by decide +kernel
theorem dX1_negate_1 : decode cX1_negate 1 = .ok (.iload_n 1, 1) := by decide +kernel
theorem dX1_negate_2 : decode cX1_negate 2 = .ok (.invokevirtual 51, 3) := by decide +kernel
theorem dX1_negate_5 : decode cX1_negate 5 = .ok (.ifCond .ne 6, 3) := by decide +kernel
theorem dX1_negate_8 : decode cX1_negate 8 = .ok (.bipush (-2), 2) := by decide +kernel
theorem dX1_negate_10 : decode cX1_negate 10 = .ok (.ireturn, 1) := by decide +kernel
theorem dX1_negate_11 : decode cX1_negate 11 = .ok (.iconst 0, 1) := by decide +kernel
theorem dX1_negate_12 : decode cX1_negate 12 = .ok (.istore_n 2, 1) := by decide +kernel
theorem dX1_negate_13 : decode cX1_negate 13 = .ok (.iload_n 2, 1) := by decide +kernel
theorem dX1_negate_14 : decode cX1_negate 14 = .ok (.iconst 4, 1) := by decide +kernel
theorem dX1_negate_15 : decode cX1_negate 15 = .ok (.if_icmp .ge 26, 3) := by decide +kernel
theorem dX1_negate_18 : decode cX1_negate 18 = .ok (.aload_n 0, 1) := by decide +kernel
theorem dX1_negate_19 : decode cX1_negate 19 = .ok (.getfield 9, 3) := by decide +kernel
theorem dX1_negate_22 : decode cX1_negate 22 = .ok (.iload_n 1, 1) := by decide +kernel
theorem dX1_negate_23 : decode cX1_negate 23 = .ok (.iconst 4, 1) := by decide +kernel
theorem dX1_negate_24 : decode cX1_negate 24 = .ok (.imul, 1) := by decide +kernel
theorem dX1_negate_25 : decode cX1_negate 25 = .ok (.iload_n 2, 1) := by decide +kernel
theorem dX1_negate_26 : decode cX1_negate 26 = .ok (.iadd, 1) := by decide +kernel
theorem dX1_negate_27 : decode cX1_negate 27 = .ok (.aload_n 0, 1) := by decide +kernel
theorem dX1_negate_28 : decode cX1_negate 28 = .ok (.iload_n 1, 1) := by decide +kernel
theorem dX1_negate_29 : decode cX1_negate 29 = .ok (.iload_n 2, 1) := by decide +kernel
theorem dX1_negate_30 : decode cX1_negate 30 = .ok (.invokevirtual 47, 3) := by decide +kernel
theorem dX1_negate_33 : decode cX1_negate 33 = .ok (.ineg, 1) := by decide +kernel
theorem dX1_negate_34 : decode cX1_negate 34 = .ok (.iastore, 1) := by decide +kernel
theorem dX1_negate_35 : decode cX1_negate 35 = .ok (.iinc 2 1, 3) := by decide +kernel
theorem dX1_negate_38 : decode cX1_negate 38 = .ok (.goto (-25), 3) := by decide +kernel
theorem dX1_negate_41 : decode cX1_negate 41 = .ok (.aload_n 0, 1) := by decide +kernel
theorem dX1_negate_42 : decode cX1_negate 42 = .ok (.dup, 1) := by decide +kernel
theorem dX1_negate_43 : decode cX1_negate 43 = .ok (.getfield 32, 3) := by decide +kernel
theorem dX1_negate_46 : decode cX1_negate 46 = .ok (.iconst 1, 1) := by decide +kernel
theorem dX1_negate_47 : decode cX1_negate 47 = .ok (.iadd, 1) := by decide +kernel
theorem dX1_negate_48 : decode cX1_negate 48 = .ok (.putfield 32, 3) := by decide +kernel
theorem dX1_negate_51 : decode cX1_negate 51 = .ok (.iconst 0, 1) := by decide +kernel
theorem dX1_negate_52 : decode cX1_negate 52 = .ok (.ireturn, 1) := by decide +kernel
theorem dX1_remove_0 : decode cX1_remove 0 = .ok (.aload_n 0, 1) := by decide +kernel
theorem dX1_remove_1 : decode cX1_remove 1 = .ok (.iload_n 1, 1) := by decide +kernel
theorem dX1_remove_2 : decode cX1_remove 2 = .ok (.invokevirtual 51, 3) := by decide +kernel
theorem dX1_remove_5 : decode cX1_remove 5 = .ok (.ifCond .ne 6, 3) := by decide +kernel
theorem dX1_remove_8 : decode cX1_remove 8 = .ok (.bipush (-2), 2) := by decide +kernel
theorem dX1_remove_10 : decode cX1_remove 10 = .ok (.ireturn, 1) := by decide +kernel
theorem dX1_remove_11 : decode cX1_remove 11 = .ok (.iload_n 1, 1) := by decide +kernel
theorem dX1_remove_12 : decode cX1_remove 12 = .ok (.iconst 4, 1) := by decide +kernel
theorem dX1_remove_13 : decode cX1_remove 13 = .ok (.imul, 1) := by decide +kernel
theorem dX1_remove_14 : decode cX1_remove 14 = .ok (.istore_n 2, 1) := by decide +kernel
theorem dX1_remove_15 : decode cX1_remove 15 = .ok (.iload_n 2, 1) := by decide +kernel
theorem dX1_remove_16 : decode cX1_remove 16 = .ok (.iconst 4, 1) := by decide +kernel
theorem dX1_remove_17 : decode cX1_remove 17 = .ok (.iadd, 1) := by decide +kernel
theorem dX1_remove_18 : decode cX1_remove 18 = .ok (.istore_n 3, 1) := by decide +kernel
theorem dX1_remove_19 : decode cX1_remove 19 = .ok (.aload_n 0, 1) := by decide +kernel
theorem dX1_remove_20 : decode cX1_remove 20 = .ok (.getfield 9, 3) := by decide +kernel
theorem dX1_remove_23 : decode cX1_remove 23 = .ok (.iload_n 3, 1) := by decide +kernel
theorem dX1_remove_24 : decode cX1_remove 24 = .ok (.aload_n 0, 1) := by decide +kernel
theorem dX1_remove_25 : decode cX1_remove 25 = .ok (.getfield 9, 3) := by decide +kernel
theorem dX1_remove_28 : decode cX1_remove 28 = .ok (.iload_n 2, 1) := by decide +kernel
theorem dX1_remove_29 : decode cX1_remove 29 = .ok (.aload_n 0, 1) := by decide +kernel
theorem dX1_remove_30 : decode cX1_remove 30 = .ok (.getfield 19, 3) := by decide +kernel
theorem dX1_remove_33 : decode cX1_remove 33 = .ok (.iconst 4, 1) := by decide +kernel
theorem dX1_remove_34 : decode cX1_remove 34 = .ok (.imul, 1) := by decide +kernel
theorem dX1_remove_35 : decode cX1_remove 35 = .ok (.iload_n 3, 1) := by decide +kernel
theorem dX1_remove_36 : decode cX1_remove 36 = .ok (.isub, 1) := by decide +kernel
theorem dX1_remove_37 : decode cX1_remove 37 = .ok (.invokestatic 26, 3) := by decide +kernel
theorem dX1_remove_40 : decode cX1_remove 40 = .ok (.aload_n 0, 1) := by decide +kernel
theorem dX1_remove_41 : decode cX1_remove 41 = .ok (.dup, 1) := by decide +kernel
theorem dX1_remove_42 : decode cX1_remove 42 = .ok (.getfield 19, 3) := by decide +kernel
theorem dX1_remove_45 : decode cX1_remove 45 = .ok (.iconst 1, 1) := by decide +kernel
theorem dX1_remove_46 : decode cX1_remove 46 = .ok (.isub, 1) := by decide +kernel
theorem dX1_remove_47 : decode cX1_remove 47 = .ok (.putfield 19, 3) := by decide +kernel
theorem dX1_remove_50 : decode cX1_remove 50 = .ok (.aload_n 0, 1) := by decide +kernel
theorem dX1_remove_51 : decode cX1_remove 51 = .ok (.dup, 1) := by decide +kernel
theorem dX1_remove_52 : decode cX1_remove 52 = .ok (.getfield 32, 3) := by decide +kernel
theorem dX1_remove_55 : decode cX1_remove 55 = .ok (.iconst 1, 1) := by decide +kernel
theorem dX1_remove_56 : decode cX1_remove 56 = .ok (.iadd, 1) := by decide +kernel
theorem dX1_remove_57 : decode cX1_remove 57 = .ok (.putfield 32, 3) := by decide +kernel
theorem dX1_remove_60 : decode cX1_remove 60 = .ok (.aload_n 0, 1) := by decide +kernel
theorem dX1_remove_61 : decode cX1_remove 61 = .ok (.getfield 19, 3) := by decide +kernel
theorem dX1_remove_64 : decode cX1_remove 64 = .ok (.ireturn, 1) := by decide +kernel
theorem dX1_exchange_0 : decode cX1_exchange 0 = .ok (.aload_n 0, 1) := by decide +kernel
theorem dX1_exchange_1 : decode cX1_exchange 1 = .ok (.iload_n 1, 1) := by decide +kernel
theorem dX1_exchange_2 : decode cX1_exchange 2 = .ok (.invokevirtual 51, 3) := by decide +kernel
theorem dX1_exchange_5 : decode cX1_exchange 5 = .ok (.ifCond .eq 16, 3) := by decide +kernel
theorem dX1_exchange_8 : decode cX1_exchange 8 = .ok (.aload_n 0, 1) := by decide +kernel
theorem dX1_exchange_9 : decode cX1_exchange 9 = .ok (.iload_n 2, 1) := by decide +kernel
theorem dX1_exchange_10 : decode cX1_exchange 10 = .ok (.invokevirtual 51, 3) := by decide +kernel
theorem dX1_exchange_13 : decode cX1_exchange 13 = .ok (.ifCond .eq 8, 3) := by decide +kernel
theorem dX1_exchange_16 : decode cX1_exchange 16 = .ok (.iload_n 1, 1) := by decide +kernel
theorem dX1_exchange_17 : decode cX1_exchange 17 = .ok (.iload_n 2, 1) := by decide +kernel
theorem dX1_exchange_18 : decode cX1_exchange 18 = .ok (.if_icmp .ne 6, 3) := by decide +kernel
theorem dX1_exchange_21 : decode cX1_exchange 21 = .ok (.bipush (-2), 2) := by decide +kernel
theorem dX1_exchange_23 : decode cX1_exchange 23 = .ok (.ireturn, 1) := by decide +kernel
theorem dX1_exchange_24 : decode cX1_exchange 24 = .ok (.iconst 0, 1) := by decide +kernel
theorem dX1_exchange_25 : decode cX1_exchange 25 = .ok (.istore_n 3, 1) := by decide +kernel
theorem dX1_exchange_26 : decode cX1_exchange 26 = .ok (.iload_n 3, 1) := by decide +kernel
theorem dX1_exchange_27 : decode cX1_exchange 27 = .ok (.iconst 4, 1) := by decide +kernel
theorem dX1_exchange_28 : decode cX1_exchange 28 = .ok (.if_icmp .ge 45, 3) := by decide +kernel
theorem dX1_exchange_31 : decode cX1_exchange 31 = .ok (.aload_n 0, 1) := by decide +kernel
theorem dX1_exchange_32 : decode cX1_exchange 32 = .ok (.iload_n 1, 1) := by decide +kernel
theorem dX1_exchange_33 : decode cX1_exchange 33 = .ok (.iload_n 3, 1) := by decide +kernel
theorem dX1_exchange_34 : decode cX1_exchange 34 = .ok (.invokevirtual 47, 3) := by decide +kernel
theorem dX1_exchange_37 : decode cX1_exchange 37 = .ok (.istore 4, 2) := by decide +kernel
theorem dX1_exchange_39 : decode cX1_exchange 39 = .ok (.aload_n 0, 1) := by decide +kernel
theorem dX1_exchange_40 : decode cX1_exchange 40 = .ok (.getfield 9, 3) := by decide +kernel
theorem dX1_exchange_43 : decode cX1_exchange 43 = .ok (.iload_n 1, 1) := by decide +kernel
theorem dX1_exchange_44 : decode cX1_exchange 44 = .ok (.iconst 4, 1) := by decide +kernel
theorem dX1_exchange_45 : decode cX1_exchange 45 = .ok (.imul, 1) := by decide +kernel
theorem dX1_exchange_46 : decode cX1_exchange 46 = .ok (.iload_n 3, 1) := by decide +kernel
theorem dX1_exchange_47 : decode cX1_exchange 47 = .ok (.iadd, 1) := by decide +kernel
theorem dX1_exchange_48 : decode cX1_exchange 48 = .ok (.aload_n 0, 1) := by decide +kernel
theorem dX1_exchange_49 : decode cX1_exchange 49 = .ok (.iload_n 2, 1) := by decide +kernel
theorem dX1_exchange_50 : decode cX1_exchange 50 = .ok (.iload_n 3, 1) := by decide +kernel
theorem dX1_exchange_51 : decode cX1_exchange 51 = .ok (.invokevirtual 47, 3) := by decide +kernel
theorem dX1_exchange_54 : decode cX1_exchange 54 = .ok (.iastore, 1) := by decide +kernel
theorem dX1_exchange_55 : decode cX1_exchange 55 = .ok (.aload_n 0, 1) := by decide +kernel
theorem dX1_exchange_56 : decode cX1_exchange 56 = .ok (.getfield 9, 3) := by decide +kernel
theorem dX1_exchange_59 : decode cX1_exchange 59 = .ok (.iload_n 2, 1) := by decide +kernel
theorem dX1_exchange_60 : decode cX1_exchange 60 = .ok (.iconst 4, 1) := by decide +kernel
theorem dX1_exchange_61 : decode cX1_exchange 61 = .ok (.imul, 1) := by decide +kernel
theorem dX1_exchange_62 : decode cX1_exchange 62 = .ok (.iload_n 3, 1) := by decide +kernel
theorem dX1_exchange_63 : decode cX1_exchange 63 = .ok (.iadd, 1) := by decide +kernel
theorem dX1_exchange_64 : decode cX1_exchange 64 = .ok (.iload 4, 2) := by decide +kernel
theorem dX1_exchange_66 : decode cX1_exchange 66 = .ok (.iastore, 1) := by decide +kernel
theorem dX1_exchange_67 : decode cX1_exchange 67 = .ok (.iinc 3 1, 3) := by decide +kernel
theorem dX1_exchange_70 : decode cX1_exchange 70 = .ok (.goto (-44), 3) := by decide +kernel
theorem dX1_exchange_73 : decode cX1_exchange 73 = .ok (.aload_n 0, 1) := by decide +kernel
theorem dX1_exchange_74 : decode cX1_exchange 74 = .ok (.dup, 1) := by decide +kernel
theorem dX1_exchange_75 : decode cX1_exchange 75 = .ok (.getfield 32, 3) := by decide +kernel
theorem dX1_exchange_78 : decode cX1_exchange 78 = .ok (.iconst 1, 1) := by decide +kernel
theorem dX1_exchange_79 : decode cX1_exchange 79 = .ok (.iadd, 1) := by decide +kernel
theorem dX1_exchange_80 : decode cX1_exchange 80 = .ok (.putfield 32, 3) := by decide +kernel
theorem dX1_exchange_83 : decode cX1_exchange 83 = .ok (.iconst 0, 1) := by decide +kernel
theorem dX1_exchange_84 : decode cX1_exchange 84 = .ok (.ireturn, 1) := by decide +kernel
theorem dX1_fill_0 : decode cX1_fill 0 = .ok (.iload_n 1, 1) := by decide +kernel
theorem dX1_fill_1 : decode cX1_fill 1 = .ok (.ifCond .lt 8, 3) := by decide +kernel
theorem dX1_fill_4 : decode cX1_fill 4 = .ok (.iload_n 1, 1) := by decide +kernel
theorem dX1_fill_5 : decode cX1_fill 5 = .ok (.iconst 3, 1) := by decide +kernel
theorem dX1_fill_6 : decode cX1_fill 6 = .ok (.if_icmp .le 6, 3) := by decide +kernel
theorem dX1_fill_9 : decode cX1_fill 9 = .ok (.bipush (-2), 2) := by decide +kernel
theorem dX1_fill_11 : decode cX1_fill 11 = .ok (.ireturn, 1) := by decide +kernel
theorem dX1_fill_12 : decode cX1_fill 12 = .ok (.aload_n 0, 1) := by decide +kernel
theorem dX1_fill_13 : decode cX1_fill 13 = .ok (.iconst 0, 1) := by decide +kernel
theorem dX1_fill_14 : decode cX1_fill 14 = .ok (.putfield 19, 3) := by decide +kernel
theorem dX1_fill_17 : decode cX1_fill 17 = .ok (.aload_n 0, 1) := by decide +kernel
theorem dX1_fill_18 : decode cX1_fill 18 = .ok (.dup, 1) := by decide +kernel
theorem dX1_fill_19 : decode cX1_fill 19 = .ok (.getfield 32, 3) := by decide +kernel
theorem dX1_fill_22 : decode cX1_fill 22 = .ok (.iconst 1, 1) := by decide +kernel
theorem dX1_fill_23 : decode cX1_fill 23 = .ok (.iadd, 1) := by decide +kernel
theorem dX1_fill_24 : decode cX1_fill 24 = .ok (.putfield 32, 3) := by decide +kernel
theorem dX1_fill_27 : decode cX1_fill 27 = .ok (.iload_n 1, 1) := by decide +kernel
theorem dX1_fill_28 : decode cX1_fill 28 = .ok (.ifCond .eq 8, 3) := by decide +kernel
theorem dX1_fill_31 : decode cX1_fill 31 = .ok (.iload_n 1, 1) := by decide +kernel
theorem dX1_fill_32 : decode cX1_fill 32 = .ok (.iconst 3, 1) := by decide +kernel
theorem dX1_fill_33 : decode cX1_fill 33 = .ok (.if_icmp .ne 27, 3) := by decide +kernel
theorem dX1_fill_36 : decode cX1_fill 36 = .ok (.iconst 0, 1) := by decide +kernel
theorem dX1_fill_37 : decode cX1_fill 37 = .ok (.istore_n 2, 1) := by decide +kernel
theorem dX1_fill_38 : decode cX1_fill 38 = .ok (.iload_n 2, 1) := by decide +kernel
theorem dX1_fill_39 : decode cX1_fill 39 = .ok (.aload_n 0, 1) := by decide +kernel
theorem dX1_fill_40 : decode cX1_fill 40 = .ok (.getfield 15, 3) := by decide +kernel
theorem dX1_fill_43 : decode cX1_fill 43 = .ok (.if_icmp .ge 17, 3) := by decide +kernel
theorem dX1_fill_46 : decode cX1_fill 46 = .ok (.aload_n 0, 1) := by decide +kernel
theorem dX1_fill_47 : decode cX1_fill 47 = .ok (.iload_n 2, 1) := by decide +kernel
theorem dX1_fill_48 : decode cX1_fill 48 = .ok (.iconst 1, 1) := by decide +kernel
theorem dX1_fill_49 : decode cX1_fill 49 = .ok (.iload_n 2, 1) := by decide +kernel
theorem dX1_fill_50 : decode cX1_fill 50 = .ok (.iconst 1, 1) := by decide +kernel
theorem dX1_fill_51 : decode cX1_fill 51 = .ok (.invokevirtual 54, 3) := by decide +kernel
theorem dX1_fill_54 : decode cX1_fill 54 = .ok (.iinc 2 1, 3) := by decide +kernel
theorem dX1_fill_57 : decode cX1_fill 57 = .ok (.goto (-19), 3) := by decide +kernel
theorem dX1_fill_60 : decode cX1_fill 60 = .ok (.iload_n 1, 1) := by decide +kernel
theorem dX1_fill_61 : decode cX1_fill 61 = .ok (.ifCond .eq 17, 3) := by decide +kernel
theorem dX1_fill_64 : decode cX1_fill 64 = .ok (.aload_n 0, 1) := by decide +kernel
theorem dX1_fill_65 : decode cX1_fill 65 = .ok (.iload_n 1, 1) := by decide +kernel
theorem dX1_fill_66 : decode cX1_fill 66 = .ok (.iconst 2, 1) := by decide +kernel
theorem dX1_fill_67 : decode cX1_fill 67 = .ok (.if_icmp .lt 7, 3) := by decide +kernel
theorem dX1_fill_70 : decode cX1_fill 70 = .ok (.iconst 1, 1) := by decide +kernel
theorem dX1_fill_71 : decode cX1_fill 71 = .ok (.goto 4, 3) := by decide +kernel
theorem dX1_fill_74 : decode cX1_fill 74 = .ok (.iconst 0, 1) := by decide +kernel
theorem dX1_fill_75 : decode cX1_fill 75 = .ok (.invokevirtual 58, 3) := by decide +kernel
theorem dX1_fill_78 : decode cX1_fill 78 = .ok (.aload_n 0, 1) := by decide +kernel
theorem dX1_fill_79 : decode cX1_fill 79 = .ok (.getfield 19, 3) := by decide +kernel
theorem dX1_fill_82 : decode cX1_fill 82 = .ok (.ireturn, 1) := by decide +kernel
theorem dX1_putPairs_0 : decode cX1_putPairs 0 = .ok (.iconst 1, 1) := by decide +kernel
theorem dX1_putPairs_1 : decode cX1_putPairs 1 = .ok (.istore_n 2, 1) := by decide +kernel
theorem dX1_putPairs_2 : decode cX1_putPairs 2 = .ok (.iload_n 2, 1) := by decide +kernel
theorem dX1_putPairs_3 : decode cX1_putPairs 3 = .ok (.aload_n 0, 1) := by decide +kernel
theorem dX1_putPairs_4 : decode cX1_putPairs 4 = .ok (.getfield 15, 3) := by decide +kernel
theorem dX1_putPairs_7 : decode cX1_putPairs 7 = .ok (.if_icmp .ge 42, 3) := by decide +kernel
theorem dX1_putPairs_10 : decode cX1_putPairs 10 = .ok (.iconst 0, 1) := by decide +kernel
theorem dX1_putPairs_11 : decode cX1_putPairs 11 = .ok (.istore_n 3, 1) := by decide +kernel
theorem dX1_putPairs_12 : decode cX1_putPairs 12 = .ok (.iload_n 3, 1) := by decide +kernel
theorem dX1_putPairs_13 : decode cX1_putPairs 13 = .ok (.iload_n 2, 1) := by decide +kernel
theorem dX1_putPairs_14 : decode cX1_putPairs 14 = .ok (.if_icmp .ge 29, 3) := by decide +kernel
theorem dX1_putPairs_17 : decode cX1_putPairs 17 = .ok (.aload_n 0, 1) := by decide +kernel
theorem dX1_putPairs_18 : decode cX1_putPairs 18 = .ok (.iload_n 3, 1) := by decide +kernel
theorem dX1_putPairs_19 : decode cX1_putPairs 19 = .ok (.iconst 1, 1) := by decide +kernel
theorem dX1_putPairs_20 : decode cX1_putPairs 20 = .ok (.iload_n 2, 1) := by decide +kernel
theorem dX1_putPairs_21 : decode cX1_putPairs 21 = .ok (.iconst (-1), 1) := by decide +kernel
theorem dX1_putPairs_22 : decode cX1_putPairs 22 = .ok (.invokevirtual 54, 3) := by decide +kernel
theorem dX1_putPairs_25 : decode cX1_putPairs 25 = .ok (.iload_n 1, 1) := by decide +kernel
theorem dX1_putPairs_26 : decode cX1_putPairs 26 = .ok (.ifCond .eq 11, 3) := by decide +kernel
theorem dX1_putPairs_29 : decode cX1_putPairs 29 = .ok (.aload_n 0, 1) := by decide +kernel
theorem dX1_putPairs_30 : decode cX1_putPairs 30 = .ok (.iload_n 3, 1) := by decide +kernel
theorem dX1_putPairs_31 : decode cX1_putPairs 31 = .ok (.iconst 1, 1) := by decide +kernel
theorem dX1_putPairs_32 : decode cX1_putPairs 32 = .ok (.iload_n 2, 1) := by decide +kernel
theorem dX1_putPairs_33 : decode cX1_putPairs 33 = .ok (.iconst 1, 1) := by decide +kernel
theorem dX1_putPairs_34 : decode cX1_putPairs 34 = .ok (.invokevirtual 54, 3) := by decide +kernel
theorem dX1_putPairs_37 : decode cX1_putPairs 37 = .ok (.iinc 3 1, 3) := by decide +kernel
theorem dX1_putPairs_40 : decode cX1_putPairs 40 = .ok (.goto (-28), 3) := by decide +kernel
theorem dX1_putPairs_43 : decode cX1_putPairs 43 = .ok (.iinc 2 1, 3) := by decide +kernel
theorem dX1_putPairs_46 : decode cX1_putPairs 46 = .ok (.goto (-44), 3) := by decide +kernel
theorem dX1_putPairs_49 : decode cX1_putPairs 49 = .ok (.return_, 1) := by decide +kernel
theorem dX1_putPair_0 : decode cX1_putPair 0 = .ok (.aload_n 0, 1) := by decide +kernel
theorem dX1_putPair_1 : decode cX1_putPair 1 = .ok (.getfield 19, 3) := by decide +kernel
theorem dX1_putPair_4 : decode cX1_putPair 4 = .ok (.bipush 9, 2) := by decide +kernel
theorem dX1_putPair_6 : decode cX1_putPair 6 = .ok (.if_icmp .lt 4, 3) := by decide +kernel
theorem dX1_putPair_9 : decode cX1_putPair 9 = .ok (.return_, 1) := by decide +kernel
theorem dX1_putPair_10 : decode cX1_putPair 10 = .ok (.aload_n 0, 1) := by decide +kernel
theorem dX1_putPair_11 : decode cX1_putPair 11 = .ok (.getfield 19, 3) := by decide +kernel
theorem dX1_putPair_14 : decode cX1_putPair 14 = .ok (.iconst 4, 1) := by decide +kernel
theorem dX1_putPair_15 : decode cX1_putPair 15 = .ok (.imul, 1) := by decide +kernel
theorem dX1_putPair_16 : decode cX1_putPair 16 = .ok (.istore 5, 2) := by decide +kernel
theorem dX1_putPair_18 : decode cX1_putPair 18 = .ok (.aload_n 0, 1) := by decide +kernel
theorem dX1_putPair_19 : decode cX1_putPair 19 = .ok (.iconst 0, 1) := by decide +kernel
theorem dX1_putPair_20 : decode cX1_putPair 20 = .ok (.iconst 0, 1) := by decide +kernel
theorem dX1_putPair_21 : decode cX1_putPair 21 = .ok (.iconst 0, 1) := by decide +kernel
theorem dX1_putPair_22 : decode cX1_putPair 22 = .ok (.iconst 0, 1) := by decide +kernel
theorem dX1_putPair_23 : decode cX1_putPair 23 = .ok (.invokevirtual 43, 3) := by decide +kernel
theorem dX1_putPair_26 : decode cX1_putPair 26 = .ok (.pop, 1) := by decide +kernel
theorem dX1_putPair_27 : decode cX1_putPair 27 = .ok (.aload_n 0, 1) := by decide +kernel
theorem dX1_putPair_28 : decode cX1_putPair 28 = .ok (.getfield 9, 3) := by decide +kernel
theorem dX1_putPair_31 : decode cX1_putPair 31 = .ok (.iload 5, 2) := by decide +kernel
theorem dX1_putPair_33 : decode cX1_putPair 33 = .ok (.iload_n 1, 1) := by decide +kernel
theorem dX1_putPair_34 : decode cX1_putPair 34 = .ok (.iadd, 1) := by decide +kernel
theorem dX1_putPair_35 : decode cX1_putPair 35 = .ok (.iload_n 2, 1) := by decide +kernel
theorem dX1_putPair_36 : decode cX1_putPair 36 = .ok (.iastore, 1) := by decide +kernel
theorem dX1_putPair_37 : decode cX1_putPair 37 = .ok (.aload_n 0, 1) := by decide +kernel
theorem dX1_putPair_38 : decode cX1_putPair 38 = .ok (.getfield 9, 3) := by decide +kernel
theorem dX1_putPair_41 : decode cX1_putPair 41 = .ok (.iload 5, 2) := by decide +kernel
theorem dX1_putPair_43 : decode cX1_putPair 43 = .ok (.iload_n 3, 1) := by decide +kernel
theorem dX1_putPair_44 : decode cX1_putPair 44 = .ok (.iadd, 1) := by decide +kernel
theorem dX1_putPair_45 : decode cX1_putPair 45 = .ok (.iload 4, 2) := by decide +kernel
theorem dX1_putPair_47 : decode cX1_putPair 47 = .ok (.iastore, 1) := by decide +kernel
theorem dX1_putPair_48 : decode cX1_putPair 48 = .ok (.return_, 1) := by decide +kernel
theorem dX2_init_0 : decode cX2_init 0 = .ok (.aload_n 0, 1) := by decide +kernel
theorem dX2_init_1 : decode cX2_init 1 = .ok (.invokespecial 3, 3) := by decide +kernel
theorem dX2_init_4 : decode cX2_init 4 = .ok (.aload_n 0, 1) := by decide +kernel
theorem dX2_init_5 : decode cX2_init 5 = .ok (.new 9, 3) := by decide +kernel
theorem dX2_init_8 : decode cX2_init 8 = .ok (.dup, 1) := by decide +kernel
theorem dX2_init_9 : decode cX2_init 9 = .ok (.invokespecial 11, 3) := by decide +kernel
theorem dX2_init_12 : decode cX2_init 12 = .ok (.putfield 12, 3) := by decide +kernel
theorem dX2_init_15 : decode cX2_init 15 = .ok (.aload_n 0, 1) := by decide +kernel
theorem dX2_init_16 : decode cX2_init 16 = .ok (.iconst 4, 1) := by decide +kernel
theorem dX2_init_17 : decode cX2_init 17 = .ok (.newarray .int, 2) := by decide +kernel
theorem dX2_init_19 : decode cX2_init 19 = .ok (.putfield 18, 3) := by decide +kernel
theorem dX2_init_22 : decode cX2_init 22 = .ok (.aload_n 0, 1) := by decide +kernel
theorem dX2_init_23 : decode cX2_init 23 = .ok (.aload_n 1, 1) := by decide +kernel
theorem dX2_init_24 : decode cX2_init 24 = .ok (.putfield 22, 3) := by decide +kernel
theorem dX2_init_27 : decode cX2_init 27 = .ok (.aload_n 0, 1) := by decide +kernel
theorem dX2_init_28 : decode cX2_init 28 = .ok (.aload_n 2, 1) := by decide +kernel
theorem dX2_init_29 : decode cX2_init 29 = .ok (.putfield 26, 3) := by decide +kernel
theorem dX2_init_32 : decode cX2_init 32 = .ok (.return_, 1) := by decide +kernel
theorem dX2_countFreePoints_0 : decode cX2_countFreePoints 0 = .ok (.aload_n 0, 1) := by decide +kernel
theorem dX2_countFreePoints_1 : decode cX2_countFreePoints 1 = .ok (.getfield 22, 3) := by decide +kernel
theorem dX2_countFreePoints_4 : decode cX2_countFreePoints 4 = .ok (.getfield 30, 3) := by decide +kernel
theorem dX2_countFreePoints_7 : decode cX2_countFreePoints 7 = .ok (.ifCond .ne 7, 3) := by decide +kernel
theorem dX2_countFreePoints_10 : decode cX2_countFreePoints 10 = .ok (.iconst 1, 1) := by decide +kernel
theorem dX2_countFreePoints_11 : decode cX2_countFreePoints 11 = .ok (.goto 4, 3) := by decide +kernel
theorem dX2_countFreePoints_14 : decode cX2_countFreePoints 14 = .ok (.iconst 0, 1) := by decide +kernel
theorem dX2_countFreePoints_15 : decode cX2_countFreePoints 15 = .ok (.istore_n 2, 1) := by decide +kernel
theorem dX2_countFreePoints_16 : decode cX2_countFreePoints 16 = .ok (.iconst 1, 1) := by decide +kernel
theorem dX2_countFreePoints_17 : decode cX2_countFreePoints 17 = .ok (.istore_n 3, 1) := by decide +kernel
theorem dX2_countFreePoints_18 : decode cX2_countFreePoints 18 = .ok (.iconst 0, 1) := by decide +kernel
theorem dX2_countFreePoints_19 : decode cX2_countFreePoints 19 = .ok (.istore 4, 2) := by decide +kernel
theorem dX2_countFreePoints_21 : decode cX2_countFreePoints 21 = .ok (.iload 4, 2) := by decide +kernel
theorem dX2_countFreePoints_23 : decode cX2_countFreePoints 23 = .ok (.aload_n 0, 1) := by decide +kernel
theorem dX2_countFreePoints_24 : decode cX2_countFreePoints 24 = .ok (.getfield 22, 3) := by decide +kernel
theorem dX2_countFreePoints_27 : decode cX2_countFreePoints 27 = .ok (.getfield 36, 3) := by decide +kernel
theorem dX2_countFreePoints_30 : decode cX2_countFreePoints 30 = .ok (.if_icmp .ge 51, 3) := by decide +kernel
theorem dX2_countFreePoints_33 : decode cX2_countFreePoints 33 = .ok (.iload_n 3, 1) := by decide +kernel
theorem dX2_countFreePoints_34 : decode cX2_countFreePoints 34 = .ok (.istore 5, 2) := by decide +kernel
theorem dX2_countFreePoints_36 : decode cX2_countFreePoints 36 = .ok (.iload 5, 2) := by decide +kernel
theorem dX2_countFreePoints_38 : decode cX2_countFreePoints 38 = .ok (.iconst 2, 1) := by decide +kernel
theorem dX2_countFreePoints_39 : decode cX2_countFreePoints 39 = .ok (.iload_n 3, 1) := by decide +kernel
theorem dX2_countFreePoints_40 : decode cX2_countFreePoints 40 = .ok (.imul, 1) := by decide +kernel
theorem dX2_countFreePoints_41 : decode cX2_countFreePoints 41 = .ok (.if_icmp .ge 30, 3) := by decide +kernel
theorem dX2_countFreePoints_44 : decode cX2_countFreePoints 44 = .ok (.aload_n 0, 1) := by decide +kernel
theorem dX2_countFreePoints_45 : decode cX2_countFreePoints 45 = .ok (.iload 5, 2) := by decide +kernel
theorem dX2_countFreePoints_47 : decode cX2_countFreePoints 47 = .ok (.iload_n 1, 1) := by decide +kernel
theorem dX2_countFreePoints_48 : decode cX2_countFreePoints 48 = .ok (.invokevirtual 39, 3) := by decide +kernel
theorem dX2_countFreePoints_51 : decode cX2_countFreePoints 51 = .ok (.aload_n 0, 1) := by decide +kernel
theorem dX2_countFreePoints_52 : decode cX2_countFreePoints 52 = .ok (.iload_n 1, 1) := by decide +kernel
theorem dX2_countFreePoints_53 : decode cX2_countFreePoints 53 = .ok (.invokevirtual 43, 3) := by decide +kernel
theorem dX2_countFreePoints_56 : decode cX2_countFreePoints 56 = .ok (.ifCond .eq 9, 3) := by decide +kernel
theorem dX2_countFreePoints_59 : decode cX2_countFreePoints 59 = .ok (.iload_n 2, 1) := by decide +kernel
theorem dX2_countFreePoints_60 : decode cX2_countFreePoints 60 = .ok (.iload_n 1, 1) := by decide +kernel
theorem dX2_countFreePoints_61 : decode cX2_countFreePoints 61 = .ok (.iconst 1, 1) := by decide +kernel
theorem dX2_countFreePoints_62 : decode cX2_countFreePoints 62 = .ok (.isub, 1) := by decide +kernel
theorem dX2_countFreePoints_63 : decode cX2_countFreePoints 63 = .ok (.iadd, 1) := by decide +kernel
theorem dX2_countFreePoints_64 : decode cX2_countFreePoints 64 = .ok (.istore_n 2, 1) := by decide +kernel
theorem dX2_countFreePoints_65 : decode cX2_countFreePoints 65 = .ok (.iinc 5 1, 3) := by decide +kernel
theorem dX2_countFreePoints_68 : decode cX2_countFreePoints 68 = .ok (.goto (-32), 3) := by decide +kernel
theorem dX2_countFreePoints_71 : decode cX2_countFreePoints 71 = .ok (.iload_n 3, 1) := by decide +kernel
theorem dX2_countFreePoints_72 : decode cX2_countFreePoints 72 = .ok (.iload_n 1, 1) := by decide +kernel
theorem dX2_countFreePoints_73 : decode cX2_countFreePoints 73 = .ok (.imul, 1) := by decide +kernel
theorem dX2_countFreePoints_74 : decode cX2_countFreePoints 74 = .ok (.istore_n 3, 1) := by decide +kernel
theorem dX2_countFreePoints_75 : decode cX2_countFreePoints 75 = .ok (.iinc 4 1, 3) := by decide +kernel
theorem dX2_countFreePoints_78 : decode cX2_countFreePoints 78 = .ok (.goto (-57), 3) := by decide +kernel
theorem dX2_countFreePoints_81 : decode cX2_countFreePoints 81 = .ok (.iload_n 2, 1) := by decide +kernel
theorem dX2_countFreePoints_82 : decode cX2_countFreePoints 82 = .ok (.ireturn, 1) := by decide +kernel
theorem dX2_setPoint_0 : decode cX2_setPoint 0 = .ok (.iload_n 1, 1) := by decide +kernel
theorem dX2_setPoint_1 : decode cX2_setPoint 1 = .ok (.istore_n 3, 1) := by decide +kernel
theorem dX2_setPoint_2 : decode cX2_setPoint 2 = .ok (.iconst 0, 1) := by decide +kernel
theorem dX2_setPoint_3 : decode cX2_setPoint 3 = .ok (.istore 4, 2) := by decide +kernel
theorem dX2_setPoint_5 : decode cX2_setPoint 5 = .ok (.iload 4, 2) := by decide +kernel
theorem dX2_setPoint_7 : decode cX2_setPoint 7 = .ok (.iconst 4, 1) := by decide +kernel
theorem dX2_setPoint_8 : decode cX2_setPoint 8 = .ok (.if_icmp .ge 27, 3) := by decide +kernel
theorem dX2_setPoint_11 : decode cX2_setPoint 11 = .ok (.iload_n 2, 1) := by decide +kernel
theorem dX2_setPoint_12 : decode cX2_setPoint 12 = .ok (.ifCond .le 23, 3) := by decide +kernel
theorem dX2_setPoint_15 : decode cX2_setPoint 15 = .ok (.aload_n 0, 1) := by decide +kernel
theorem dX2_setPoint_16 : decode cX2_setPoint 16 = .ok (.getfield 18, 3) := by decide +kernel
theorem dX2_setPoint_19 : decode cX2_setPoint 19 = .ok (.iload 4, 2) := by decide +kernel
theorem dX2_setPoint_21 : decode cX2_setPoint 21 = .ok (.iload_n 3, 1) := by decide +kernel
theorem dX2_setPoint_22 : decode cX2_setPoint 22 = .ok (.iload_n 2, 1) := by decide +kernel
theorem dX2_setPoint_23 : decode cX2_setPoint 23 = .ok (.irem, 1) := by decide +kernel
theorem dX2_setPoint_24 : decode cX2_setPoint 24 = .ok (.iastore, 1) := by decide +kernel
theorem dX2_setPoint_25 : decode cX2_setPoint 25 = .ok (.iload_n 3, 1) := by decide +kernel
theorem dX2_setPoint_26 : decode cX2_setPoint 26 = .ok (.iload_n 2, 1) := by decide +kernel
theorem dX2_setPoint_27 : decode cX2_setPoint 27 = .ok (.idiv, 1) := by decide +kernel
theorem dX2_setPoint_28 : decode cX2_setPoint 28 = .ok (.istore_n 3, 1) := by decide +kernel
theorem dX2_setPoint_29 : decode cX2_setPoint 29 = .ok (.iinc 4 1, 3) := by decide +kernel
theorem dX2_setPoint_32 : decode cX2_setPoint 32 = .ok (.goto (-27), 3) := by decide +kernel
theorem dX2_setPoint_35 : decode cX2_setPoint 35 = .ok (.return_, 1) := by decide +kernel
theorem dX2_isFree_0 : decode cX2_isFree 0 = .ok (.iconst 0, 1) := by decide +kernel
theorem dX2_isFree_1 : decode cX2_isFree 1 = .ok (.istore_n 2, 1) := by decide +kernel
theorem dX2_isFree_2 : decode cX2_isFree 2 = .ok (.iload_n 2, 1) := by decide +kernel
theorem dX2_isFree_3 : decode cX2_isFree 3 = .ok (.aload_n 0, 1) := by decide +kernel
theorem dX2_isFree_4 : decode cX2_isFree 4 = .ok (.getfield 22, 3) := by decide +kernel
theorem dX2_isFree_7 : decode cX2_isFree 7 = .ok (.getfield 30, 3) := by decide +kernel
theorem dX2_isFree_10 : decode cX2_isFree 10 = .ok (.if_icmp .ge 65, 3) := by decide +kernel
theorem dX2_isFree_13 : decode cX2_isFree 13 = .ok (.iconst 0, 1) := by decide +kernel
theorem dX2_isFree_14 : decode cX2_isFree 14 = .ok (.istore_n 3, 1) := by decide +kernel
theorem dX2_isFree_15 : decode cX2_isFree 15 = .ok (.iconst 0, 1) := by decide +kernel
theorem dX2_isFree_16 : decode cX2_isFree 16 = .ok (.istore 4, 2) := by decide +kernel
theorem dX2_isFree_18 : decode cX2_isFree 18 = .ok (.iload 4, 2) := by decide +kernel
theorem dX2_isFree_20 : decode cX2_isFree 20 = .ok (.aload_n 0, 1) := by decide +kernel
theorem dX2_isFree_21 : decode cX2_isFree 21 = .ok (.getfield 22, 3) := by decide +kernel
theorem dX2_isFree_24 : decode cX2_isFree 24 = .ok (.getfield 36, 3) := by decide +kernel
theorem dX2_isFree_27 : decode cX2_isFree 27 = .ok (.if_icmp .ge 30, 3) := by decide +kernel
theorem dX2_isFree_30 : decode cX2_isFree 30 = .ok (.iload_n 3, 1) := by decide +kernel
theorem dX2_isFree_31 : decode cX2_isFree 31 = .ok (.aload_n 0, 1) := by decide +kernel
theorem dX2_isFree_32 : decode cX2_isFree 32 = .ok (.getfield 22, 3) := by decide +kernel
theorem dX2_isFree_35 : decode cX2_isFree 35 = .ok (.iload_n 2, 1) := by decide +kernel
theorem dX2_isFree_36 : decode cX2_isFree 36 = .ok (.iload 4, 2) := by decide +kernel
theorem dX2_isFree_38 : decode cX2_isFree 38 = .ok (.invokevirtual 47, 3) := by decide +kernel
theorem dX2_isFree_41 : decode cX2_isFree 41 = .ok (.aload_n 0, 1) := by decide +kernel
theorem dX2_isFree_42 : decode cX2_isFree 42 = .ok (.getfield 18, 3) := by decide +kernel
theorem dX2_isFree_45 : decode cX2_isFree 45 = .ok (.iload 4, 2) := by decide +kernel
theorem dX2_isFree_47 : decode cX2_isFree 47 = .ok (.iaload, 1) := by decide +kernel
theorem dX2_isFree_48 : decode cX2_isFree 48 = .ok (.imul, 1) := by decide +kernel
theorem dX2_isFree_49 : decode cX2_isFree 49 = .ok (.iadd, 1) := by decide +kernel
theorem dX2_isFree_50 : decode cX2_isFree 50 = .ok (.istore_n 3, 1) := by decide +kernel
theorem dX2_isFree_51 : decode cX2_isFree 51 = .ok (.iinc 4 1, 3) := by decide +kernel
theorem dX2_isFree_54 : decode cX2_isFree 54 = .ok (.goto (-36), 3) := by decide +kernel
theorem dX2_isFree_57 : decode cX2_isFree 57 = .ok (.iload_n 1, 1) := by decide +kernel
theorem dX2_isFree_58 : decode cX2_isFree 58 = .ok (.ifCond .le 11, 3) := by decide +kernel
theorem dX2_isFree_61 : decode cX2_isFree 61 = .ok (.iload_n 3, 1) := by decide +kernel
theorem dX2_isFree_62 : decode cX2_isFree 62 = .ok (.iload_n 1, 1) := by decide +kernel
theorem dX2_isFree_63 : decode cX2_isFree 63 = .ok (.irem, 1) := by decide +kernel
theorem dX2_isFree_64 : decode cX2_isFree 64 = .ok (.ifCond .ne 5, 3) := by decide +kernel
theorem dX2_isFree_67 : decode cX2_isFree 67 = .ok (.iconst 0, 1) := by decide +kernel
theorem dX2_isFree_68 : decode cX2_isFree 68 = .ok (.ireturn, 1) := by decide +kernel
theorem dX2_isFree_69 : decode cX2_isFree 69 = .ok (.iinc 2 1, 3) := by decide +kernel
theorem dX2_isFree_72 : decode cX2_isFree 72 = .ok (.goto (-70), 3) := by decide +kernel
theorem dX2_isFree_75 : decode cX2_isFree 75 = .ok (.iconst 1, 1) := by decide +kernel
theorem dX2_isFree_76 : decode cX2_isFree 76 = .ok (.ireturn, 1) := by decide +kernel
theorem dX2_isGood_0 : decode cX2_isGood 0 = .ok (.aload_n 0, 1) := by decide +kernel
theorem dX2_isGood_1 : decode cX2_isGood 1 = .ok (.getfield 22, 3) := by decide +kernel
theorem dX2_isGood_4 : decode cX2_isGood 4 = .ok (.invokevirtual 51, 3) := by decide +kernel
theorem dX2_isGood_7 : decode cX2_isGood 7 = .ok (.istore_n 2, 1) := by decide +kernel
theorem dX2_isGood_8 : decode cX2_isGood 8 = .ok (.aload_n 0, 1) := by decide +kernel
theorem dX2_isGood_9 : decode cX2_isGood 9 = .ok (.getfield 26, 3) := by decide +kernel
theorem dX2_isGood_12 : decode cX2_isGood 12 = .ok (.iload_n 2, 1) := by decide +kernel
theorem dX2_isGood_13 : decode cX2_isGood 13 = .ok (.invokevirtual 55, 3) := by decide +kernel
theorem dX2_isGood_16 : decode cX2_isGood 16 = .ok (.istore_n 3, 1) := by decide +kernel
theorem dX2_isGood_17 : decode cX2_isGood 17 = .ok (.iconst 0, 1) := by decide +kernel
theorem dX2_isGood_18 : decode cX2_isGood 18 = .ok (.istore 4, 2) := by decide +kernel
theorem dX2_isGood_20 : decode cX2_isGood 20 = .ok (.iload 4, 2) := by decide +kernel
theorem dX2_isGood_22 : decode cX2_isGood 22 = .ok (.iload_n 2, 1) := by decide +kernel
theorem dX2_isGood_23 : decode cX2_isGood 23 = .ok (.if_icmp .gt 57, 3) := by decide +kernel
theorem dX2_isGood_26 : decode cX2_isGood 26 = .ok (.iload 4, 2) := by decide +kernel
theorem dX2_isGood_28 : decode cX2_isGood 28 = .ok (.invokestatic 61, 3) := by decide +kernel
theorem dX2_isGood_31 : decode cX2_isGood 31 = .ok (.iload_n 3, 1) := by decide +kernel
theorem dX2_isGood_32 : decode cX2_isGood 32 = .ok (.if_icmp .ne 42, 3) := by decide +kernel
theorem dX2_isGood_35 : decode cX2_isGood 35 = .ok (.aload_n 0, 1) := by decide +kernel
theorem dX2_isGood_36 : decode cX2_isGood 36 = .ok (.getfield 26, 3) := by decide +kernel
theorem dX2_isGood_39 : decode cX2_isGood 39 = .ok (.iload 4, 2) := by decide +kernel
theorem dX2_isGood_41 : decode cX2_isGood 41 = .ok (.invokevirtual 66, 3) := by decide +kernel
theorem dX2_isGood_44 : decode cX2_isGood 44 = .ok (.ifCond .eq 30, 3) := by decide +kernel
theorem dX2_isGood_47 : decode cX2_isGood 47 = .ok (.aload_n 0, 1) := by decide +kernel
theorem dX2_isGood_48 : decode cX2_isGood 48 = .ok (.getfield 12, 3) := by decide +kernel
theorem dX2_isGood_51 : decode cX2_isGood 51 = .ok (.aload_n 0, 1) := by decide +kernel
theorem dX2_isGood_52 : decode cX2_isGood 52 = .ok (.getfield 22, 3) := by decide +kernel
theorem dX2_isGood_55 : decode cX2_isGood 55 = .ok (.iload 4, 2) := by decide +kernel
theorem dX2_isGood_57 : decode cX2_isGood 57 = .ok (.invokevirtual 69, 3) := by decide +kernel
theorem dX2_isGood_60 : decode cX2_isGood 60 = .ok (.aload_n 0, 1) := by decide +kernel
theorem dX2_isGood_61 : decode cX2_isGood 61 = .ok (.getfield 12, 3) := by decide +kernel
theorem dX2_isGood_64 : decode cX2_isGood 64 = .ok (.iload_n 1, 1) := by decide +kernel
theorem dX2_isGood_65 : decode cX2_isGood 65 = .ok (.invokevirtual 73, 3) := by decide +kernel
theorem dX2_isGood_68 : decode cX2_isGood 68 = .ok (.iload_n 3, 1) := by decide +kernel
theorem dX2_isGood_69 : decode cX2_isGood 69 = .ok (.if_icmp .ge 5, 3) := by decide +kernel
theorem dX2_isGood_72 : decode cX2_isGood 72 = .ok (.iconst 0, 1) := by decide +kernel
theorem dX2_isGood_73 : decode cX2_isGood 73 = .ok (.ireturn, 1) := by decide +kernel
theorem dX2_isGood_74 : decode cX2_isGood 74 = .ok (.iinc 4 1, 3) := by decide +kernel
theorem dX2_isGood_77 : decode cX2_isGood 77 = .ok (.goto (-57), 3) := by decide +kernel
theorem dX2_isGood_80 : decode cX2_isGood 80 = .ok (.iconst 1, 1) := by decide +kernel
theorem dX2_isGood_81 : decode cX2_isGood 81 = .ok (.ireturn, 1) := by decide +kernel
theorem dX3_init_0 : decode cX3_init 0 = .ok (.aload_n 0, 1) := by decide +kernel
theorem dX3_init_1 : decode cX3_init 1 = .ok (.invokespecial 3, 3) := by decide +kernel
theorem dX3_init_4 : decode cX3_init 4 = .ok (.aload_n 0, 1) := by decide +kernel
theorem dX3_init_5 : decode cX3_init 5 = .ok (.bipush 6, 2) := by decide +kernel
theorem dX3_init_7 : decode cX3_init 7 = .ok (.anewarray 9, 3) := by decide +kernel
theorem dX3_init_10 : decode cX3_init 10 = .ok (.putfield 11, 3) := by decide +kernel
theorem dX3_init_13 : decode cX3_init 13 = .ok (.iconst 0, 1) := by decide +kernel
theorem dX3_init_14 : decode cX3_init 14 = .ok (.istore_n 1, 1) := by decide +kernel
theorem dX3_init_15 : decode cX3_init 15 = .ok (.iload_n 1, 1) := by decide +kernel
theorem dX3_init_16 : decode cX3_init 16 = .ok (.bipush 6, 2) := by decide +kernel
theorem dX3_init_18 : decode cX3_init 18 = .ok (.if_icmp .ge 22, 3) := by decide +kernel
theorem dX3_init_21 : decode cX3_init 21 = .ok (.aload_n 0, 1) := by decide +kernel
theorem dX3_init_22 : decode cX3_init 22 = .ok (.getfield 11, 3) := by decide +kernel
theorem dX3_init_25 : decode cX3_init 25 = .ok (.iload_n 1, 1) := by decide +kernel
theorem dX3_init_26 : decode cX3_init 26 = .ok (.new 9, 3) := by decide +kernel
theorem dX3_init_29 : decode cX3_init 29 = .ok (.dup, 1) := by decide +kernel
theorem dX3_init_30 : decode cX3_init 30 = .ok (.invokespecial 17, 3) := by decide +kernel
theorem dX3_init_33 : decode cX3_init 33 = .ok (.aastore, 1) := by decide +kernel
theorem dX3_init_34 : decode cX3_init 34 = .ok (.iinc 1 1, 3) := by decide +kernel
theorem dX3_init_37 : decode cX3_init 37 = .ok (.goto (-22), 3) := by decide +kernel
theorem dX3_init_40 : decode cX3_init 40 = .ok (.return_, 1) := by decide +kernel
theorem dX3_keep_0 : decode cX3_keep 0 = .ok (.aload_n 0, 1) := by decide +kernel
theorem dX3_keep_1 : decode cX3_keep 1 = .ok (.getfield 11, 3) := by decide +kernel
theorem dX3_keep_4 : decode cX3_keep 4 = .ok (.aload_n 0, 1) := by decide +kernel
theorem dX3_keep_5 : decode cX3_keep 5 = .ok (.getfield 18, 3) := by decide +kernel
theorem dX3_keep_8 : decode cX3_keep 8 = .ok (.aaload, 1) := by decide +kernel
theorem dX3_keep_9 : decode cX3_keep 9 = .ok (.aload_n 1, 1) := by decide +kernel
theorem dX3_keep_10 : decode cX3_keep 10 = .ok (.invokevirtual 22, 3) := by decide +kernel
theorem dX3_keep_13 : decode cX3_keep 13 = .ok (.aload_n 0, 1) := by decide +kernel
theorem dX3_keep_14 : decode cX3_keep 14 = .ok (.aload_n 0, 1) := by decide +kernel
theorem dX3_keep_15 : decode cX3_keep 15 = .ok (.getfield 18, 3) := by decide +kernel
theorem dX3_keep_18 : decode cX3_keep 18 = .ok (.iconst 1, 1) := by decide +kernel
theorem dX3_keep_19 : decode cX3_keep 19 = .ok (.iadd, 1) := by decide +kernel
theorem dX3_keep_20 : decode cX3_keep 20 = .ok (.bipush 6, 2) := by decide +kernel
theorem dX3_keep_22 : decode cX3_keep 22 = .ok (.irem, 1) := by decide +kernel
