theorem dX7_refresh_61 : decode cX7_refresh 61 = .ok (.ifCond .eq 15, 3) := by decide +kernel
theorem dX7_refresh_64 : decode cX7_refresh 64 = .ok (.aload_n 0, 1) := by decide +kernel
theorem dX7_refresh_65 : decode cX7_refresh 65 = .ok (.iload_n 2, 1) := by decide +kernel
theorem dX7_refresh_66 : decode cX7_refresh 66 = .ok (.invokevirtual 51, 3) := by decide +kernel
theorem dX7_refresh_69 : decode cX7_refresh 69 = .ok (.ifCond .eq 7, 3) := by decide +kernel
theorem dX7_refresh_72 : decode cX7_refresh 72 = .ok (.iconst 1, 1) := by decide +kernel
theorem dX7_refresh_73 : decode cX7_refresh 73 = .ok (.goto 4, 3) := by decide +kernel
theorem dX7_refresh_76 : decode cX7_refresh 76 = .ok (.iconst 0, 1) := by decide +kernel
theorem dX7_refresh_77 : decode cX7_refresh 77 = .ok (.bastore, 1) := by decide +kernel
theorem dX7_refresh_78 : decode cX7_refresh 78 = .ok (.aload_n 0, 1) := by decide +kernel
theorem dX7_refresh_79 : decode cX7_refresh 79 = .ok (.getfield 15, 3) := by decide +kernel
theorem dX7_refresh_82 : decode cX7_refresh 82 = .ok (.iload_n 2, 1) := by decide +kernel
theorem dX7_refresh_83 : decode cX7_refresh 83 = .ok (.aload_n 0, 1) := by decide +kernel
theorem dX7_refresh_84 : decode cX7_refresh 84 = .ok (.getfield 9, 3) := by decide +kernel
theorem dX7_refresh_87 : decode cX7_refresh 87 = .ok (.iload_n 2, 1) := by decide +kernel
theorem dX7_refresh_88 : decode cX7_refresh 88 = .ok (.baload, 1) := by decide +kernel
theorem dX7_refresh_89 : decode cX7_refresh 89 = .ok (.ifCond .eq 21, 3) := by decide +kernel
theorem dX7_refresh_92 : decode cX7_refresh 92 = .ok (.iload_n 2, 1) := by decide +kernel
theorem dX7_refresh_93 : decode cX7_refresh 93 = .ok (.iload_n 1, 1) := by decide +kernel
theorem dX7_refresh_94 : decode cX7_refresh 94 = .ok (.if_icmp .eq 12, 3) := by decide +kernel
theorem dX7_refresh_97 : decode cX7_refresh 97 = .ok (.aload_n 0, 1) := by decide +kernel
theorem dX7_refresh_98 : decode cX7_refresh 98 = .ok (.iload_n 2, 1) := by decide +kernel
theorem dX7_refresh_99 : decode cX7_refresh 99 = .ok (.invokevirtual 55, 3) := by decide +kernel
theorem dX7_refresh_102 : decode cX7_refresh 102 = .ok (.iconst (-1), 1) := by decide +kernel
theorem dX7_refresh_103 : decode cX7_refresh 103 = .ok (.if_icmp .eq 7, 3) := by decide +kernel
theorem dX7_refresh_106 : decode cX7_refresh 106 = .ok (.iconst 1, 1) := by decide +kernel
theorem dX7_refresh_107 : decode cX7_refresh 107 = .ok (.goto 4, 3) := by decide +kernel
theorem dX7_refresh_110 : decode cX7_refresh 110 = .ok (.iconst 0, 1) := by decide +kernel
theorem dX7_refresh_111 : decode cX7_refresh 111 = .ok (.bastore, 1) := by decide +kernel
theorem dX7_refresh_112 : decode cX7_refresh 112 = .ok (.iinc 2 (-1), 3) := by decide +kernel
theorem dX7_refresh_115 : decode cX7_refresh 115 = .ok (.goto (-72), 3) := by decide +kernel
theorem dX7_refresh_118 : decode cX7_refresh 118 = .ok (.aload_n 0, 1) := by decide +kernel
theorem dX7_refresh_119 : decode cX7_refresh 119 = .ok (.getfield 18, 3) := by decide +kernel
theorem dX7_refresh_122 : decode cX7_refresh 122 = .ok (.iconst 0, 1) := by decide +kernel
theorem dX7_refresh_123 : decode cX7_refresh 123 = .ok (.iconst 0, 1) := by decide +kernel
theorem dX7_refresh_124 : decode cX7_refresh 124 = .ok (.iastore, 1) := by decide +kernel
theorem dX7_refresh_125 : decode cX7_refresh 125 = .ok (.iconst 1, 1) := by decide +kernel
theorem dX7_refresh_126 : decode cX7_refresh 126 = .ok (.istore_n 2, 1) := by decide +kernel
theorem dX7_refresh_127 : decode cX7_refresh 127 = .ok (.iload_n 2, 1) := by decide +kernel
theorem dX7_refresh_128 : decode cX7_refresh 128 = .ok (.aload_n 0, 1) := by decide +kernel
theorem dX7_refresh_129 : decode cX7_refresh 129 = .ok (.getfield 30, 3) := by decide +kernel
theorem dX7_refresh_132 : decode cX7_refresh 132 = .ok (.getfield 59, 3) := by decide +kernel
theorem dX7_refresh_135 : decode cX7_refresh 135 = .ok (.iload_n 1, 1) := by decide +kernel
theorem dX7_refresh_136 : decode cX7_refresh 136 = .ok (.iaload, 1) := by decide +kernel
theorem dX7_refresh_137 : decode cX7_refresh 137 = .ok (.if_icmp .gt 47, 3) := by decide +kernel
theorem dX7_refresh_140 : decode cX7_refresh 140 = .ok (.aload_n 0, 1) := by decide +kernel
theorem dX7_refresh_141 : decode cX7_refresh 141 = .ok (.getfield 15, 3) := by decide +kernel
theorem dX7_refresh_144 : decode cX7_refresh 144 = .ok (.aload_n 0, 1) := by decide +kernel
theorem dX7_refresh_145 : decode cX7_refresh 145 = .ok (.getfield 18, 3) := by decide +kernel
theorem dX7_refresh_148 : decode cX7_refresh 148 = .ok (.iload_n 2, 1) := by decide +kernel
theorem dX7_refresh_149 : decode cX7_refresh 149 = .ok (.iconst 1, 1) := by decide +kernel
theorem dX7_refresh_150 : decode cX7_refresh 150 = .ok (.isub, 1) := by decide +kernel
theorem dX7_refresh_151 : decode cX7_refresh 151 = .ok (.iaload, 1) := by decide +kernel
theorem dX7_refresh_152 : decode cX7_refresh 152 = .ok (.baload, 1) := by decide +kernel
theorem dX7_refresh_153 : decode cX7_refresh 153 = .ok (.ifCond .eq 31, 3) := by decide +kernel
theorem dX7_refresh_156 : decode cX7_refresh 156 = .ok (.aload_n 0, 1) := by decide +kernel
theorem dX7_refresh_157 : decode cX7_refresh 157 = .ok (.getfield 18, 3) := by decide +kernel
theorem dX7_refresh_160 : decode cX7_refresh 160 = .ok (.iload_n 2, 1) := by decide +kernel
theorem dX7_refresh_161 : decode cX7_refresh 161 = .ok (.iconst 0, 1) := by decide +kernel
theorem dX7_refresh_162 : decode cX7_refresh 162 = .ok (.aload_n 0, 1) := by decide +kernel
theorem dX7_refresh_163 : decode cX7_refresh 163 = .ok (.aload_n 0, 1) := by decide +kernel
theorem dX7_refresh_164 : decode cX7_refresh 164 = .ok (.getfield 18, 3) := by decide +kernel
theorem dX7_refresh_167 : decode cX7_refresh 167 = .ok (.iload_n 2, 1) := by decide +kernel
theorem dX7_refresh_168 : decode cX7_refresh 168 = .ok (.iconst 1, 1) := by decide +kernel
theorem dX7_refresh_169 : decode cX7_refresh 169 = .ok (.isub, 1) := by decide +kernel
theorem dX7_refresh_170 : decode cX7_refresh 170 = .ok (.iaload, 1) := by decide +kernel
theorem dX7_refresh_171 : decode cX7_refresh 171 = .ok (.invokevirtual 55, 3) := by decide +kernel
theorem dX7_refresh_174 : decode cX7_refresh 174 = .ok (.invokestatic 62, 3) := by decide +kernel
theorem dX7_refresh_177 : decode cX7_refresh 177 = .ok (.iastore, 1) := by decide +kernel
theorem dX7_refresh_178 : decode cX7_refresh 178 = .ok (.iinc 2 1, 3) := by decide +kernel
theorem dX7_refresh_181 : decode cX7_refresh 181 = .ok (.goto (-54), 3) := by decide +kernel
theorem dX7_refresh_184 : decode cX7_refresh 184 = .ok (.return_, 1) := by decide +kernel
theorem dX7_isModular_0 : decode cX7_isModular 0 = .ok (.aload_n 0, 1) := by decide +kernel
theorem dX7_isModular_1 : decode cX7_isModular 1 = .ok (.getfield 30, 3) := by decide +kernel
theorem dX7_isModular_4 : decode cX7_isModular 4 = .ok (.getfield 59, 3) := by decide +kernel
theorem dX7_isModular_7 : decode cX7_isModular 7 = .ok (.astore_n 2, 1) := by decide +kernel
theorem dX7_isModular_8 : decode cX7_isModular 8 = .ok (.iconst 0, 1) := by decide +kernel
theorem dX7_isModular_9 : decode cX7_isModular 9 = .ok (.istore_n 3, 1) := by decide +kernel
theorem dX7_isModular_10 : decode cX7_isModular 10 = .ok (.iload_n 3, 1) := by decide +kernel
theorem dX7_isModular_11 : decode cX7_isModular 11 = .ok (.aload_n 0, 1) := by decide +kernel
theorem dX7_isModular_12 : decode cX7_isModular 12 = .ok (.getfield 26, 3) := by decide +kernel
theorem dX7_isModular_15 : decode cX7_isModular 15 = .ok (.invokevirtual 44, 3) := by decide +kernel
theorem dX7_isModular_18 : decode cX7_isModular 18 = .ok (.if_icmp .gt 44, 3) := by decide +kernel
theorem dX7_isModular_21 : decode cX7_isModular 21 = .ok (.aload_n 0, 1) := by decide +kernel
theorem dX7_isModular_22 : decode cX7_isModular 22 = .ok (.getfield 30, 3) := by decide +kernel
theorem dX7_isModular_25 : decode cX7_isModular 25 = .ok (.getfield 48, 3) := by decide +kernel
theorem dX7_isModular_28 : decode cX7_isModular 28 = .ok (.iload_n 3, 1) := by decide +kernel
theorem dX7_isModular_29 : decode cX7_isModular 29 = .ok (.baload, 1) := by decide +kernel
theorem dX7_isModular_30 : decode cX7_isModular 30 = .ok (.ifCond .eq 26, 3) := by decide +kernel
theorem dX7_isModular_33 : decode cX7_isModular 33 = .ok (.aload_n 2, 1) := by decide +kernel
theorem dX7_isModular_34 : decode cX7_isModular 34 = .ok (.iload_n 1, 1) := by decide +kernel
theorem dX7_isModular_35 : decode cX7_isModular 35 = .ok (.iaload, 1) := by decide +kernel
theorem dX7_isModular_36 : decode cX7_isModular 36 = .ok (.aload_n 2, 1) := by decide +kernel
theorem dX7_isModular_37 : decode cX7_isModular 37 = .ok (.iload_n 3, 1) := by decide +kernel
theorem dX7_isModular_38 : decode cX7_isModular 38 = .ok (.iaload, 1) := by decide +kernel
theorem dX7_isModular_39 : decode cX7_isModular 39 = .ok (.iadd, 1) := by decide +kernel
theorem dX7_isModular_40 : decode cX7_isModular 40 = .ok (.aload_n 2, 1) := by decide +kernel
theorem dX7_isModular_41 : decode cX7_isModular 41 = .ok (.iload_n 1, 1) := by decide +kernel
theorem dX7_isModular_42 : decode cX7_isModular 42 = .ok (.iload_n 3, 1) := by decide +kernel
theorem dX7_isModular_43 : decode cX7_isModular 43 = .ok (.ior, 1) := by decide +kernel
theorem dX7_isModular_44 : decode cX7_isModular 44 = .ok (.iaload, 1) := by decide +kernel
theorem dX7_isModular_45 : decode cX7_isModular 45 = .ok (.aload_n 2, 1) := by decide +kernel
theorem dX7_isModular_46 : decode cX7_isModular 46 = .ok (.iload_n 1, 1) := by decide +kernel
theorem dX7_isModular_47 : decode cX7_isModular 47 = .ok (.iload_n 3, 1) := by decide +kernel
theorem dX7_isModular_48 : decode cX7_isModular 48 = .ok (.iand, 1) := by decide +kernel
theorem dX7_isModular_49 : decode cX7_isModular 49 = .ok (.iaload, 1) := by decide +kernel
theorem dX7_isModular_50 : decode cX7_isModular 50 = .ok (.iadd, 1) := by decide +kernel
theorem dX7_isModular_51 : decode cX7_isModular 51 = .ok (.if_icmp .eq 5, 3) := by decide +kernel
theorem dX7_isModular_54 : decode cX7_isModular 54 = .ok (.iconst 0, 1) := by decide +kernel
theorem dX7_isModular_55 : decode cX7_isModular 55 = .ok (.ireturn, 1) := by decide +kernel
theorem dX7_isModular_56 : decode cX7_isModular 56 = .ok (.iinc 3 1, 3) := by decide +kernel
theorem dX7_isModular_59 : decode cX7_isModular 59 = .ok (.goto (-49), 3) := by decide +kernel
theorem dX7_isModular_62 : decode cX7_isModular 62 = .ok (.iconst 1, 1) := by decide +kernel
theorem dX7_isModular_63 : decode cX7_isModular 63 = .ok (.ireturn, 1) := by decide +kernel
theorem dX7_nextAbove_0 : decode cX7_nextAbove 0 = .ok (.iload_n 1, 1) := by decide +kernel
theorem dX7_nextAbove_1 : decode cX7_nextAbove 1 = .ok (.iconst 1, 1) := by decide +kernel
theorem dX7_nextAbove_2 : decode cX7_nextAbove 2 = .ok (.iadd, 1) := by decide +kernel
theorem dX7_nextAbove_3 : decode cX7_nextAbove 3 = .ok (.istore_n 2, 1) := by decide +kernel
theorem dX7_nextAbove_4 : decode cX7_nextAbove 4 = .ok (.iload_n 2, 1) := by decide +kernel
theorem dX7_nextAbove_5 : decode cX7_nextAbove 5 = .ok (.aload_n 0, 1) := by decide +kernel
theorem dX7_nextAbove_6 : decode cX7_nextAbove 6 = .ok (.getfield 26, 3) := by decide +kernel
theorem dX7_nextAbove_9 : decode cX7_nextAbove 9 = .ok (.invokevirtual 44, 3) := by decide +kernel
theorem dX7_nextAbove_12 : decode cX7_nextAbove 12 = .ok (.if_icmp .gt 51, 3) := by decide +kernel
theorem dX7_nextAbove_15 : decode cX7_nextAbove 15 = .ok (.aload_n 0, 1) := by decide +kernel
theorem dX7_nextAbove_16 : decode cX7_nextAbove 16 = .ok (.getfield 15, 3) := by decide +kernel
theorem dX7_nextAbove_19 : decode cX7_nextAbove 19 = .ok (.iload_n 2, 1) := by decide +kernel
theorem dX7_nextAbove_20 : decode cX7_nextAbove 20 = .ok (.baload, 1) := by decide +kernel
theorem dX7_nextAbove_21 : decode cX7_nextAbove 21 = .ok (.ifCond .eq 36, 3) := by decide +kernel
theorem dX7_nextAbove_24 : decode cX7_nextAbove 24 = .ok (.iload_n 1, 1) := by decide +kernel
theorem dX7_nextAbove_25 : decode cX7_nextAbove 25 = .ok (.iload_n 2, 1) := by decide +kernel
theorem dX7_nextAbove_26 : decode cX7_nextAbove 26 = .ok (.iconst (-1), 1) := by decide +kernel
theorem dX7_nextAbove_27 : decode cX7_nextAbove 27 = .ok (.ixor, 1) := by decide +kernel
theorem dX7_nextAbove_28 : decode cX7_nextAbove 28 = .ok (.iand, 1) := by decide +kernel
theorem dX7_nextAbove_29 : decode cX7_nextAbove 29 = .ok (.ifCond .ne 28, 3) := by decide +kernel
theorem dX7_nextAbove_32 : decode cX7_nextAbove 32 = .ok (.aload_n 0, 1) := by decide +kernel
theorem dX7_nextAbove_33 : decode cX7_nextAbove 33 = .ok (.getfield 30, 3) := by decide +kernel
theorem dX7_nextAbove_36 : decode cX7_nextAbove 36 = .ok (.getfield 59, 3) := by decide +kernel
theorem dX7_nextAbove_39 : decode cX7_nextAbove 39 = .ok (.iload_n 2, 1) := by decide +kernel
theorem dX7_nextAbove_40 : decode cX7_nextAbove 40 = .ok (.iaload, 1) := by decide +kernel
theorem dX7_nextAbove_41 : decode cX7_nextAbove 41 = .ok (.aload_n 0, 1) := by decide +kernel
theorem dX7_nextAbove_42 : decode cX7_nextAbove 42 = .ok (.getfield 30, 3) := by decide +kernel
theorem dX7_nextAbove_45 : decode cX7_nextAbove 45 = .ok (.getfield 59, 3) := by decide +kernel
theorem dX7_nextAbove_48 : decode cX7_nextAbove 48 = .ok (.iload_n 1, 1) := by decide +kernel
theorem dX7_nextAbove_49 : decode cX7_nextAbove 49 = .ok (.iaload, 1) := by decide +kernel
theorem dX7_nextAbove_50 : decode cX7_nextAbove 50 = .ok (.iconst 1, 1) := by decide +kernel
theorem dX7_nextAbove_51 : decode cX7_nextAbove 51 = .ok (.iadd, 1) := by decide +kernel
theorem dX7_nextAbove_52 : decode cX7_nextAbove 52 = .ok (.if_icmp .ne 5, 3) := by decide +kernel
theorem dX7_nextAbove_55 : decode cX7_nextAbove 55 = .ok (.iload_n 2, 1) := by decide +kernel
theorem dX7_nextAbove_56 : decode cX7_nextAbove 56 = .ok (.ireturn, 1) := by decide +kernel
theorem dX7_nextAbove_57 : decode cX7_nextAbove 57 = .ok (.iinc 2 1, 3) := by decide +kernel
theorem dX7_nextAbove_60 : decode cX7_nextAbove 60 = .ok (.goto (-56), 3) := by decide +kernel
theorem dX7_nextAbove_63 : decode cX7_nextAbove 63 = .ok (.iconst (-1), 1) := by decide +kernel
theorem dX7_nextAbove_64 : decode cX7_nextAbove 64 = .ok (.ireturn, 1) := by decide +kernel
theorem dX7_hasChain_0 : decode cX7_hasChain 0 = .ok (.aload_n 0, 1) := by decide +kernel
theorem dX7_hasChain_1 : decode cX7_hasChain 1 = .ok (.invokevirtual 68, 3) := by decide +kernel
theorem dX7_hasChain_4 : decode cX7_hasChain 4 = .ok (.aload_n 0, 1) := by decide +kernel
theorem dX7_hasChain_5 : decode cX7_hasChain 5 = .ok (.getfield 15, 3) := by decide +kernel
theorem dX7_hasChain_8 : decode cX7_hasChain 8 = .ok (.iconst 0, 1) := by decide +kernel
theorem dX7_hasChain_9 : decode cX7_hasChain 9 = .ok (.baload, 1) := by decide +kernel
theorem dX7_hasChain_10 : decode cX7_hasChain 10 = .ok (.ireturn, 1) := by decide +kernel
theorem dX7_linkAt_0 : decode cX7_linkAt 0 = .ok (.aload_n 0, 1) := by decide +kernel
theorem dX7_linkAt_1 : decode cX7_linkAt 1 = .ok (.invokevirtual 68, 3) := by decide +kernel
theorem dX7_linkAt_4 : decode cX7_linkAt 4 = .ok (.aload_n 0, 1) := by decide +kernel
theorem dX7_linkAt_5 : decode cX7_linkAt 5 = .ok (.getfield 18, 3) := by decide +kernel
theorem dX7_linkAt_8 : decode cX7_linkAt 8 = .ok (.iload_n 1, 1) := by decide +kernel
theorem dX7_linkAt_9 : decode cX7_linkAt 9 = .ok (.iaload, 1) := by decide +kernel
theorem dX7_linkAt_10 : decode cX7_linkAt 10 = .ok (.ireturn, 1) := by decide +kernel
theorem dX7_stepAt_0 : decode cX7_stepAt 0 = .ok (.aload_n 0, 1) := by decide +kernel
theorem dX7_stepAt_1 : decode cX7_stepAt 1 = .ok (.invokevirtual 68, 3) := by decide +kernel
theorem dX7_stepAt_4 : decode cX7_stepAt 4 = .ok (.aload_n 0, 1) := by decide +kernel
theorem dX7_stepAt_5 : decode cX7_stepAt 5 = .ok (.getfield 18, 3) := by decide +kernel
theorem dX7_stepAt_8 : decode cX7_stepAt 8 = .ok (.iload_n 1, 1) := by decide +kernel
theorem dX7_stepAt_9 : decode cX7_stepAt 9 = .ok (.iaload, 1) := by decide +kernel
theorem dX7_stepAt_10 : decode cX7_stepAt 10 = .ok (.invokestatic 69, 3) := by decide +kernel
theorem dX7_stepAt_13 : decode cX7_stepAt 13 = .ok (.aload_n 0, 1) := by decide +kernel
theorem dX7_stepAt_14 : decode cX7_stepAt 14 = .ok (.getfield 18, 3) := by decide +kernel
theorem dX7_stepAt_17 : decode cX7_stepAt 17 = .ok (.iload_n 1, 1) := by decide +kernel
theorem dX7_stepAt_18 : decode cX7_stepAt 18 = .ok (.iconst 1, 1) := by decide +kernel
theorem dX7_stepAt_19 : decode cX7_stepAt 19 = .ok (.isub, 1) := by decide +kernel
theorem dX7_stepAt_20 : decode cX7_stepAt 20 = .ok (.iaload, 1) := by decide +kernel
theorem dX7_stepAt_21 : decode cX7_stepAt 21 = .ok (.invokestatic 69, 3) := by decide +kernel
theorem dX7_stepAt_24 : decode cX7_stepAt 24 = .ok (.isub, 1) := by decide +kernel
theorem dX7_stepAt_25 : decode cX7_stepAt 25 = .ok (.ireturn, 1) := by decide +kernel
theorem dX7_countOfRank_0 : decode cX7_countOfRank 0 = .ok (.aload_n 0, 1) := by decide +kernel
theorem dX7_countOfRank_1 : decode cX7_countOfRank 1 = .ok (.invokevirtual 68, 3) := by decide +kernel
theorem dX7_countOfRank_4 : decode cX7_countOfRank 4 = .ok (.iconst 0, 1) := by decide +kernel
theorem dX7_countOfRank_5 : decode cX7_countOfRank 5 = .ok (.istore_n 2, 1) := by decide +kernel
theorem dX7_countOfRank_6 : decode cX7_countOfRank 6 = .ok (.iconst 0, 1) := by decide +kernel
theorem dX7_countOfRank_7 : decode cX7_countOfRank 7 = .ok (.istore_n 3, 1) := by decide +kernel
theorem dX7_countOfRank_8 : decode cX7_countOfRank 8 = .ok (.iload_n 3, 1) := by decide +kernel
theorem dX7_countOfRank_9 : decode cX7_countOfRank 9 = .ok (.aload_n 0, 1) := by decide +kernel
theorem dX7_countOfRank_10 : decode cX7_countOfRank 10 = .ok (.getfield 26, 3) := by decide +kernel
theorem dX7_countOfRank_13 : decode cX7_countOfRank 13 = .ok (.invokevirtual 44, 3) := by decide +kernel
theorem dX7_countOfRank_16 : decode cX7_countOfRank 16 = .ok (.if_icmp .gt 34, 3) := by decide +kernel
theorem dX7_countOfRank_19 : decode cX7_countOfRank 19 = .ok (.aload_n 0, 1) := by decide +kernel
theorem dX7_countOfRank_20 : decode cX7_countOfRank 20 = .ok (.getfield 9, 3) := by decide +kernel
theorem dX7_countOfRank_23 : decode cX7_countOfRank 23 = .ok (.iload_n 3, 1) := by decide +kernel
theorem dX7_countOfRank_24 : decode cX7_countOfRank 24 = .ok (.baload, 1) := by decide +kernel
theorem dX7_countOfRank_25 : decode cX7_countOfRank 25 = .ok (.ifCond .eq 19, 3) := by decide +kernel
theorem dX7_countOfRank_28 : decode cX7_countOfRank 28 = .ok (.aload_n 0, 1) := by decide +kernel
theorem dX7_countOfRank_29 : decode cX7_countOfRank 29 = .ok (.getfield 30, 3) := by decide +kernel
theorem dX7_countOfRank_32 : decode cX7_countOfRank 32 = .ok (.getfield 59, 3) := by decide +kernel
theorem dX7_countOfRank_35 : decode cX7_countOfRank 35 = .ok (.iload_n 3, 1) := by decide +kernel
theorem dX7_countOfRank_36 : decode cX7_countOfRank 36 = .ok (.iaload, 1) := by decide +kernel
theorem dX7_countOfRank_37 : decode cX7_countOfRank 37 = .ok (.iload_n 1, 1) := by decide +kernel
theorem dX7_countOfRank_38 : decode cX7_countOfRank 38 = .ok (.if_icmp .ne 6, 3) := by decide +kernel
theorem dX7_countOfRank_41 : decode cX7_countOfRank 41 = .ok (.iinc 2 1, 3) := by decide +kernel
theorem dX7_countOfRank_44 : decode cX7_countOfRank 44 = .ok (.iinc 3 1, 3) := by decide +kernel
theorem dX7_countOfRank_47 : decode cX7_countOfRank 47 = .ok (.goto (-39), 3) := by decide +kernel
theorem dX7_countOfRank_50 : decode cX7_countOfRank 50 = .ok (.iload_n 2, 1) := by decide +kernel
theorem dX7_countOfRank_51 : decode cX7_countOfRank 51 = .ok (.ireturn, 1) := by decide +kernel
theorem dX8_init_0 : decode cX8_init 0 = .ok (.aload_n 0, 1) := by decide +kernel
theorem dX8_init_1 : decode cX8_init 1 = .ok (.invokespecial 3, 3) := by decide +kernel
theorem dX8_init_4 : decode cX8_init 4 = .ok (.aload_n 0, 1) := by decide +kernel
theorem dX8_init_5 : decode cX8_init 5 = .ok (.sipush 512, 3) := by decide +kernel
theorem dX8_init_8 : decode cX8_init 8 = .ok (.newarray .boolean, 2) := by decide +kernel
theorem dX8_init_10 : decode cX8_init 10 = .ok (.putfield 9, 3) := by decide +kernel
theorem dX8_init_13 : decode cX8_init 13 = .ok (.aload_n 0, 1) := by decide +kernel
theorem dX8_init_14 : decode cX8_init 14 = .ok (.sipush 512, 3) := by decide +kernel
theorem dX8_init_17 : decode cX8_init 17 = .ok (.newarray .int, 2) := by decide +kernel
theorem dX8_init_19 : decode cX8_init 19 = .ok (.putfield 15, 3) := by decide +kernel
theorem dX8_init_22 : decode cX8_init 22 = .ok (.aload_n 0, 1) := by decide +kernel
theorem dX8_init_23 : decode cX8_init 23 = .ok (.new 19, 3) := by decide +kernel
theorem dX8_init_26 : decode cX8_init 26 = .ok (.dup, 1) := by decide +kernel
theorem dX8_init_27 : decode cX8_init 27 = .ok (.sipush 186, 3) := by decide +kernel
theorem dX8_init_30 : decode cX8_init 30 = .ok (.invokespecial 21, 3) := by decide +kernel
theorem dX8_init_33 : decode cX8_init 33 = .ok (.putfield 24, 3) := by decide +kernel
theorem dX8_init_36 : decode cX8_init 36 = .ok (.aload_n 0, 1) := by decide +kernel
theorem dX8_init_37 : decode cX8_init 37 = .ok (.iconst (-1), 1) := by decide +kernel
theorem dX8_init_38 : decode cX8_init 38 = .ok (.putfield 28, 3) := by decide +kernel
theorem dX8_init_41 : decode cX8_init 41 = .ok (.aload_n 0, 1) := by decide +kernel
theorem dX8_init_42 : decode cX8_init 42 = .ok (.aload_n 1, 1) := by decide +kernel
theorem dX8_init_43 : decode cX8_init 43 = .ok (.putfield 32, 3) := by decide +kernel
theorem dX8_init_46 : decode cX8_init 46 = .ok (.aload_n 0, 1) := by decide +kernel
theorem dX8_init_47 : decode cX8_init 47 = .ok (.aload_n 2, 1) := by decide +kernel
theorem dX8_init_48 : decode cX8_init 48 = .ok (.putfield 36, 3) := by decide +kernel
theorem dX8_init_51 : decode cX8_init 51 = .ok (.return_, 1) := by decide +kernel
theorem dX8_refresh_0 : decode cX8_refresh 0 = .ok (.aload_n 0, 1) := by decide +kernel
theorem dX8_refresh_1 : decode cX8_refresh 1 = .ok (.getfield 28, 3) := by decide +kernel
theorem dX8_refresh_4 : decode cX8_refresh 4 = .ok (.aload_n 0, 1) := by decide +kernel
theorem dX8_refresh_5 : decode cX8_refresh 5 = .ok (.getfield 32, 3) := by decide +kernel
theorem dX8_refresh_8 : decode cX8_refresh 8 = .ok (.getfield 40, 3) := by decide +kernel
theorem dX8_refresh_11 : decode cX8_refresh 11 = .ok (.if_icmp .ne 4, 3) := by decide +kernel
theorem dX8_refresh_14 : decode cX8_refresh 14 = .ok (.return_, 1) := by decide +kernel
theorem dX8_refresh_15 : decode cX8_refresh 15 = .ok (.aload_n 0, 1) := by decide +kernel
theorem dX8_refresh_16 : decode cX8_refresh 16 = .ok (.aload_n 0, 1) := by decide +kernel
theorem dX8_refresh_17 : decode cX8_refresh 17 = .ok (.getfield 32, 3) := by decide +kernel
theorem dX8_refresh_20 : decode cX8_refresh 20 = .ok (.getfield 40, 3) := by decide +kernel
theorem dX8_refresh_23 : decode cX8_refresh 23 = .ok (.putfield 28, 3) := by decide +kernel
theorem dX8_refresh_26 : decode cX8_refresh 26 = .ok (.iconst 0, 1) := by decide +kernel
theorem dX8_refresh_27 : decode cX8_refresh 27 = .ok (.istore_n 1, 1) := by decide +kernel
theorem dX8_refresh_28 : decode cX8_refresh 28 = .ok (.iload_n 1, 1) := by decide +kernel
theorem dX8_refresh_29 : decode cX8_refresh 29 = .ok (.aload_n 0, 1) := by decide +kernel
theorem dX8_refresh_30 : decode cX8_refresh 30 = .ok (.getfield 32, 3) := by decide +kernel
theorem dX8_refresh_33 : decode cX8_refresh 33 = .ok (.invokevirtual 45, 3) := by decide +kernel
theorem dX8_refresh_36 : decode cX8_refresh 36 = .ok (.if_icmp .gt 16, 3) := by decide +kernel
theorem dX8_refresh_39 : decode cX8_refresh 39 = .ok (.aload_n 0, 1) := by decide +kernel
theorem dX8_refresh_40 : decode cX8_refresh 40 = .ok (.getfield 9, 3) := by decide +kernel
theorem dX8_refresh_43 : decode cX8_refresh 43 = .ok (.iload_n 1, 1) := by decide +kernel
theorem dX8_refresh_44 : decode cX8_refresh 44 = .ok (.iconst 1, 1) := by decide +kernel
theorem dX8_refresh_45 : decode cX8_refresh 45 = .ok (.bastore, 1) := by decide +kernel
theorem dX8_refresh_46 : decode cX8_refresh 46 = .ok (.iinc 1 1, 3) := by decide +kernel
theorem dX8_refresh_49 : decode cX8_refresh 49 = .ok (.goto (-21), 3) := by decide +kernel
theorem dX8_refresh_52 : decode cX8_refresh 52 = .ok (.aload_n 0, 1) := by decide +kernel
theorem dX8_refresh_53 : decode cX8_refresh 53 = .ok (.getfield 36, 3) := by decide +kernel
theorem dX8_refresh_56 : decode cX8_refresh 56 = .ok (.invokevirtual 49, 3) := by decide +kernel
theorem dX8_refresh_59 : decode cX8_refresh 59 = .ok (.aload_n 0, 1) := by decide +kernel
theorem dX8_refresh_60 : decode cX8_refresh 60 = .ok (.getfield 36, 3) := by decide +kernel
theorem dX8_refresh_63 : decode cX8_refresh 63 = .ok (.getfield 54, 3) := by decide +kernel
theorem dX8_refresh_66 : decode cX8_refresh 66 = .ok (.astore_n 1, 1) := by decide +kernel
theorem dX8_refresh_67 : decode cX8_refresh 67 = .ok (.iconst 0, 1) := by decide +kernel
theorem dX8_refresh_68 : decode cX8_refresh 68 = .ok (.istore_n 2, 1) := by decide +kernel
theorem dX8_refresh_69 : decode cX8_refresh 69 = .ok (.iload_n 2, 1) := by decide +kernel
theorem dX8_refresh_70 : decode cX8_refresh 70 = .ok (.aload_n 1, 1) := by decide +kernel
theorem dX8_refresh_71 : decode cX8_refresh 71 = .ok (.getfield 57, 3) := by decide +kernel
theorem dX8_refresh_74 : decode cX8_refresh 74 = .ok (.if_icmp .ge 39, 3) := by decide +kernel
theorem dX8_refresh_77 : decode cX8_refresh 77 = .ok (.aload_n 1, 1) := by decide +kernel
theorem dX8_refresh_78 : decode cX8_refresh 78 = .ok (.getfield 60, 3) := by decide +kernel
theorem dX8_refresh_81 : decode cX8_refresh 81 = .ok (.iload_n 2, 1) := by decide +kernel
theorem dX8_refresh_82 : decode cX8_refresh 82 = .ok (.iaload, 1) := by decide +kernel
theorem dX8_refresh_83 : decode cX8_refresh 83 = .ok (.istore_n 3, 1) := by decide +kernel
theorem dX8_refresh_84 : decode cX8_refresh 84 = .ok (.aload_n 0, 1) := by decide +kernel
theorem dX8_refresh_85 : decode cX8_refresh 85 = .ok (.iload_n 3, 1) := by decide +kernel
theorem dX8_refresh_86 : decode cX8_refresh 86 = .ok (.invokevirtual 63, 3) := by decide +kernel
theorem dX8_refresh_89 : decode cX8_refresh 89 = .ok (.istore 4, 2) := by decide +kernel
theorem dX8_refresh_91 : decode cX8_refresh 91 = .ok (.aload_n 0, 1) := by decide +kernel
theorem dX8_refresh_92 : decode cX8_refresh 92 = .ok (.iload_n 3, 1) := by decide +kernel
theorem dX8_refresh_93 : decode cX8_refresh 93 = .ok (.iload 4, 2) := by decide +kernel
theorem dX8_refresh_95 : decode cX8_refresh 95 = .ok (.invokevirtual 67, 3) := by decide +kernel
theorem dX8_refresh_98 : decode cX8_refresh 98 = .ok (.aload_n 0, 1) := by decide +kernel
theorem dX8_refresh_99 : decode cX8_refresh 99 = .ok (.iload_n 3, 1) := by decide +kernel
theorem dX8_refresh_100 : decode cX8_refresh 100 = .ok (.iload_n 3, 1) := by decide +kernel
theorem dX8_refresh_101 : decode cX8_refresh 101 = .ok (.iload 4, 2) := by decide +kernel
theorem dX8_refresh_103 : decode cX8_refresh 103 = .ok (.ixor, 1) := by decide +kernel
theorem dX8_refresh_104 : decode cX8_refresh 104 = .ok (.invokevirtual 67, 3) := by decide +kernel
theorem dX8_refresh_107 : decode cX8_refresh 107 = .ok (.iinc 2 1, 3) := by decide +kernel
theorem dX8_refresh_110 : decode cX8_refresh 110 = .ok (.goto (-41), 3) := by decide +kernel
theorem dX8_refresh_113 : decode cX8_refresh 113 = .ok (.aload_n 0, 1) := by decide +kernel
theorem dX8_refresh_114 : decode cX8_refresh 114 = .ok (.getfield 24, 3) := by decide +kernel
theorem dX8_refresh_117 : decode cX8_refresh 117 = .ok (.iconst 0, 1) := by decide +kernel
theorem dX8_refresh_118 : decode cX8_refresh 118 = .ok (.putfield 57, 3) := by decide +kernel
theorem dX8_refresh_121 : decode cX8_refresh 121 = .ok (.iconst 0, 1) := by decide +kernel
theorem dX8_refresh_122 : decode cX8_refresh 122 = .ok (.istore_n 2, 1) := by decide +kernel
theorem dX8_refresh_123 : decode cX8_refresh 123 = .ok (.iload_n 2, 1) := by decide +kernel
theorem dX8_refresh_124 : decode cX8_refresh 124 = .ok (.aload_n 0, 1) := by decide +kernel
theorem dX8_refresh_125 : decode cX8_refresh 125 = .ok (.getfield 32, 3) := by decide +kernel
theorem dX8_refresh_128 : decode cX8_refresh 128 = .ok (.invokevirtual 45, 3) := by decide +kernel
theorem dX8_refresh_131 : decode cX8_refresh 131 = .ok (.if_icmp .gt 26, 3) := by decide +kernel
theorem dX8_refresh_134 : decode cX8_refresh 134 = .ok (.aload_n 0, 1) := by decide +kernel
theorem dX8_refresh_135 : decode cX8_refresh 135 = .ok (.getfield 9, 3) := by decide +kernel
theorem dX8_refresh_138 : decode cX8_refresh 138 = .ok (.iload_n 2, 1) := by decide +kernel
theorem dX8_refresh_139 : decode cX8_refresh 139 = .ok (.baload, 1) := by decide +kernel
theorem dX8_refresh_140 : decode cX8_refresh 140 = .ok (.ifCond .eq 11, 3) := by decide +kernel
theorem dX8_refresh_143 : decode cX8_refresh 143 = .ok (.aload_n 0, 1) := by decide +kernel
theorem dX8_refresh_144 : decode cX8_refresh 144 = .ok (.getfield 24, 3) := by decide +kernel
theorem dX8_refresh_147 : decode cX8_refresh 147 = .ok (.iload_n 2, 1) := by decide +kernel
theorem dX8_refresh_148 : decode cX8_refresh 148 = .ok (.invokevirtual 71, 3) := by decide +kernel
theorem dX8_refresh_151 : decode cX8_refresh 151 = .ok (.iinc 2 1, 3) := by decide +kernel
theorem dX8_refresh_154 : decode cX8_refresh 154 = .ok (.goto (-31), 3) := by decide +kernel
theorem dX8_refresh_157 : decode cX8_refresh 157 = .ok (.return_, 1) := by decide +kernel
theorem dX8_positivePart_0 : decode cX8_positivePart 0 = .ok (.aload_n 0, 1) := by decide +kernel
theorem dX8_positivePart_1 : decode cX8_positivePart 1 = .ok (.getfield 36, 3) := by decide +kernel
theorem dX8_positivePart_4 : decode cX8_positivePart 4 = .ok (.iload_n 1, 1) := by decide +kernel
theorem dX8_positivePart_5 : decode cX8_positivePart 5 = .ok (.invokevirtual 74, 3) := by decide +kernel
theorem dX8_positivePart_8 : decode cX8_positivePart 8 = .ok (.astore_n 2, 1) := by decide +kernel
theorem dX8_positivePart_9 : decode cX8_positivePart 9 = .ok (.iconst 0, 1) := by decide +kernel
theorem dX8_positivePart_10 : decode cX8_positivePart 10 = .ok (.istore_n 3, 1) := by decide +kernel
theorem dX8_positivePart_11 : decode cX8_positivePart 11 = .ok (.iconst 0, 1) := by decide +kernel
theorem dX8_positivePart_12 : decode cX8_positivePart 12 = .ok (.istore 4, 2) := by decide +kernel
theorem dX8_positivePart_14 : decode cX8_positivePart 14 = .ok (.iload 4, 2) := by decide +kernel
theorem dX8_positivePart_16 : decode cX8_positivePart 16 = .ok (.aload_n 0, 1) := by decide +kernel
theorem dX8_positivePart_17 : decode cX8_positivePart 17 = .ok (.getfield 32, 3) := by decide +kernel
theorem dX8_positivePart_20 : decode cX8_positivePart 20 = .ok (.getfield 78, 3) := by decide +kernel
theorem dX8_positivePart_23 : decode cX8_positivePart 23 = .ok (.if_icmp .ge 23, 3) := by decide +kernel
theorem dX8_positivePart_26 : decode cX8_positivePart 26 = .ok (.aload_n 2, 1) := by decide +kernel
theorem dX8_positivePart_27 : decode cX8_positivePart 27 = .ok (.iload 4, 2) := by decide +kernel
theorem dX8_positivePart_29 : decode cX8_positivePart 29 = .ok (.iaload, 1) := by decide +kernel
theorem dX8_positivePart_30 : decode cX8_positivePart 30 = .ok (.ifCond .le 10, 3) := by decide +kernel
theorem dX8_positivePart_33 : decode cX8_positivePart 33 = .ok (.iload_n 3, 1) := by decide +kernel
theorem dX8_positivePart_34 : decode cX8_positivePart 34 = .ok (.iconst 1, 1) := by decide +kernel
theorem dX8_positivePart_35 : decode cX8_positivePart 35 = .ok (.iload 4, 2) := by decide +kernel
theorem dX8_positivePart_37 : decode cX8_positivePart 37 = .ok (.ishl, 1) := by decide +kernel
theorem dX8_positivePart_38 : decode cX8_positivePart 38 = .ok (.ior, 1) := by decide +kernel
theorem dX8_positivePart_39 : decode cX8_positivePart 39 = .ok (.istore_n 3, 1) := by decide +kernel
theorem dX8_positivePart_40 : decode cX8_positivePart 40 = .ok (.iinc 4 1, 3) := by decide +kernel
theorem dX8_positivePart_43 : decode cX8_positivePart 43 = .ok (.goto (-29), 3) := by decide +kernel
theorem dX8_positivePart_46 : decode cX8_positivePart 46 = .ok (.iload_n 3, 1) := by decide +kernel
theorem dX8_positivePart_47 : decode cX8_positivePart 47 = .ok (.ireturn, 1) := by decide +kernel
theorem dX8_strike_0 : decode cX8_strike 0 = .ok (.aload_n 0, 1) := by decide +kernel
theorem dX8_strike_1 : decode cX8_strike 1 = .ok (.getfield 32, 3) := by decide +kernel
theorem dX8_strike_4 : decode cX8_strike 4 = .ok (.invokevirtual 45, 3) := by decide +kernel
theorem dX8_strike_7 : decode cX8_strike 7 = .ok (.iload_n 1, 1) := by decide +kernel
theorem dX8_strike_8 : decode cX8_strike 8 = .ok (.iconst (-1), 1) := by decide +kernel
theorem dX8_strike_9 : decode cX8_strike 9 = .ok (.ixor, 1) := by decide +kernel
theorem dX8_strike_10 : decode cX8_strike 10 = .ok (.iand, 1) := by decide +kernel
theorem dX8_strike_11 : decode cX8_strike 11 = .ok (.istore_n 3, 1) := by decide +kernel
theorem dX8_strike_12 : decode cX8_strike 12 = .ok (.iconst 1, 1) := by decide +kernel
theorem dX8_strike_13 : decode cX8_strike 13 = .ok (.iload_n 3, 1) := by decide +kernel
theorem dX8_strike_14 : decode cX8_strike 14 = .ok (.invokestatic 81, 3) := by decide +kernel
theorem dX8_strike_17 : decode cX8_strike 17 = .ok (.ishl, 1) := by decide +kernel
theorem dX8_strike_18 : decode cX8_strike 18 = .ok (.istore 4, 2) := by decide +kernel
theorem dX8_strike_20 : decode cX8_strike 20 = .ok (.iconst 0, 1) := by decide +kernel
theorem dX8_strike_21 : decode cX8_strike 21 = .ok (.istore 5, 2) := by decide +kernel
theorem dX8_strike_23 : decode cX8_strike 23 = .ok (.iconst 0, 1) := by decide +kernel
theorem dX8_strike_24 : decode cX8_strike 24 = .ok (.istore 6, 2) := by decide +kernel
theorem dX8_strike_26 : decode cX8_strike 26 = .ok (.iload 6, 2) := by decide +kernel
theorem dX8_strike_28 : decode cX8_strike 28 = .ok (.iload 4, 2) := by decide +kernel
theorem dX8_strike_30 : decode cX8_strike 30 = .ok (.if_icmp .ge 27, 3) := by decide +kernel
theorem dX8_strike_33 : decode cX8_strike 33 = .ok (.aload_n 0, 1) := by decide +kernel
theorem dX8_strike_34 : decode cX8_strike 34 = .ok (.getfield 9, 3) := by decide +kernel
theorem dX8_strike_37 : decode cX8_strike 37 = .ok (.iload_n 2, 1) := by decide +kernel
theorem dX8_strike_38 : decode cX8_strike 38 = .ok (.iload 5, 2) := by decide +kernel
theorem dX8_strike_40 : decode cX8_strike 40 = .ok (.ior, 1) := by decide +kernel
theorem dX8_strike_41 : decode cX8_strike 41 = .ok (.iconst 0, 1) := by decide +kernel
theorem dX8_strike_42 : decode cX8_strike 42 = .ok (.bastore, 1) := by decide +kernel
theorem dX8_strike_43 : decode cX8_strike 43 = .ok (.iload 5, 2) := by decide +kernel
theorem dX8_strike_45 : decode cX8_strike 45 = .ok (.iload_n 3, 1) := by decide +kernel
theorem dX8_strike_46 : decode cX8_strike 46 = .ok (.isub, 1) := by decide +kernel
theorem dX8_strike_47 : decode cX8_strike 47 = .ok (.iload_n 3, 1) := by decide +kernel
theorem dX8_strike_48 : decode cX8_strike 48 = .ok (.iand, 1) := by decide +kernel
theorem dX8_strike_49 : decode cX8_strike 49 = .ok (.istore 5, 2) := by decide +kernel
theorem dX8_strike_51 : decode cX8_strike 51 = .ok (.iinc 6 1, 3) := by decide +kernel
theorem dX8_strike_54 : decode cX8_strike 54 = .ok (.goto (-28), 3) := by decide +kernel
theorem dX8_strike_57 : decode cX8_strike 57 = .ok (.return_, 1) := by decide +kernel
theorem dX8_listed_0 : decode cX8_listed 0 = .ok (.aload_n 0, 1) := by decide +kernel
theorem dX8_listed_1 : decode cX8_listed 1 = .ok (.invokevirtual 86, 3) := by decide +kernel
theorem dX8_listed_4 : decode cX8_listed 4 = .ok (.aload_n 0, 1) := by decide +kernel
theorem dX8_listed_5 : decode cX8_listed 5 = .ok (.getfield 24, 3) := by decide +kernel
theorem dX8_listed_8 : decode cX8_listed 8 = .ok (.areturn, 1) := by decide +kernel
theorem dX8_isRegion_0 : decode cX8_isRegion 0 = .ok (.aload_n 0, 1) := by decide +kernel
theorem dX8_isRegion_1 : decode cX8_isRegion 1 = .ok (.invokevirtual 86, 3) := by decide +kernel
theorem dX8_isRegion_4 : decode cX8_isRegion 4 = .ok (.aload_n 0, 1) := by decide +kernel
theorem dX8_isRegion_5 : decode cX8_isRegion 5 = .ok (.getfield 9, 3) := by decide +kernel
theorem dX8_isRegion_8 : decode cX8_isRegion 8 = .ok (.iload_n 1, 1) := by decide +kernel
theorem dX8_isRegion_9 : decode cX8_isRegion 9 = .ok (.baload, 1) := by decide +kernel
theorem dX8_isRegion_10 : decode cX8_isRegion 10 = .ok (.ireturn, 1) := by decide +kernel
theorem dX8_wallsOf_0 : decode cX8_wallsOf 0 = .ok (.aload_n 0, 1) := by decide +kernel
theorem dX8_wallsOf_1 : decode cX8_wallsOf 1 = .ok (.invokevirtual 86, 3) := by decide +kernel
theorem dX8_wallsOf_4 : decode cX8_wallsOf 4 = .ok (.iconst 0, 1) := by decide +kernel
theorem dX8_wallsOf_5 : decode cX8_wallsOf 5 = .ok (.istore_n 2, 1) := by decide +kernel
theorem dX8_wallsOf_6 : decode cX8_wallsOf 6 = .ok (.iconst 0, 1) := by decide +kernel
theorem dX8_wallsOf_7 : decode cX8_wallsOf 7 = .ok (.istore_n 3, 1) := by decide +kernel
theorem dX8_wallsOf_8 : decode cX8_wallsOf 8 = .ok (.iload_n 3, 1) := by decide +kernel
theorem dX8_wallsOf_9 : decode cX8_wallsOf 9 = .ok (.aload_n 0, 1) := by decide +kernel
theorem dX8_wallsOf_10 : decode cX8_wallsOf 10 = .ok (.getfield 32, 3) := by decide +kernel
theorem dX8_wallsOf_13 : decode cX8_wallsOf 13 = .ok (.getfield 78, 3) := by decide +kernel
theorem dX8_wallsOf_16 : decode cX8_wallsOf 16 = .ok (.if_icmp .ge 28, 3) := by decide +kernel
theorem dX8_wallsOf_19 : decode cX8_wallsOf 19 = .ok (.aload_n 0, 1) := by decide +kernel
theorem dX8_wallsOf_20 : decode cX8_wallsOf 20 = .ok (.getfield 9, 3) := by decide +kernel
theorem dX8_wallsOf_23 : decode cX8_wallsOf 23 = .ok (.iload_n 1, 1) := by decide +kernel
theorem dX8_wallsOf_24 : decode cX8_wallsOf 24 = .ok (.iconst 1, 1) := by decide +kernel
theorem dX8_wallsOf_25 : decode cX8_wallsOf 25 = .ok (.iload_n 3, 1) := by decide +kernel
theorem dX8_wallsOf_26 : decode cX8_wallsOf 26 = .ok (.ishl, 1) := by decide +kernel
theorem dX8_wallsOf_27 : decode cX8_wallsOf 27 = .ok (.ixor, 1) := by decide +kernel
theorem dX8_wallsOf_28 : decode cX8_wallsOf 28 = .ok (.baload, 1) := by decide +kernel
theorem dX8_wallsOf_29 : decode cX8_wallsOf 29 = .ok (.ifCond .eq 9, 3) := by decide +kernel
theorem dX8_wallsOf_32 : decode cX8_wallsOf 32 = .ok (.iload_n 2, 1) := by decide +kernel
theorem dX8_wallsOf_33 : decode cX8_wallsOf 33 = .ok (.iconst 1, 1) := by decide +kernel
theorem dX8_wallsOf_34 : decode cX8_wallsOf 34 = .ok (.iload_n 3, 1) := by decide +kernel
theorem dX8_wallsOf_35 : decode cX8_wallsOf 35 = .ok (.ishl, 1) := by decide +kernel
theorem dX8_wallsOf_36 : decode cX8_wallsOf 36 = .ok (.ior, 1) := by decide +kernel
theorem dX8_wallsOf_37 : decode cX8_wallsOf 37 = .ok (.istore_n 2, 1) := by decide +kernel
theorem dX8_wallsOf_38 : decode cX8_wallsOf 38 = .ok (.iinc 3 1, 3) := by decide +kernel
theorem dX8_wallsOf_41 : decode cX8_wallsOf 41 = .ok (.goto (-33), 3) := by decide +kernel
theorem dX8_wallsOf_44 : decode cX8_wallsOf 44 = .ok (.iload_n 2, 1) := by decide +kernel
theorem dX8_wallsOf_45 : decode cX8_wallsOf 45 = .ok (.ireturn, 1) := by decide +kernel
theorem dX8_countGalleries_0 : decode cX8_countGalleries 0 = .ok (.aload_n 0, 1) := by decide +kernel
theorem dX8_countGalleries_1 : decode cX8_countGalleries 1 = .ok (.invokevirtual 86, 3) := by decide +kernel
theorem dX8_countGalleries_4 : decode cX8_countGalleries 4 = .ok (.iload_n 1, 1) := by decide +kernel
theorem dX8_countGalleries_5 : decode cX8_countGalleries 5 = .ok (.iload_n 2, 1) := by decide +kernel
theorem dX8_countGalleries_6 : decode cX8_countGalleries 6 = .ok (.ixor, 1) := by decide +kernel
theorem dX8_countGalleries_7 : decode cX8_countGalleries 7 = .ok (.istore_n 3, 1) := by decide +kernel
theorem dX8_countGalleries_8 : decode cX8_countGalleries 8 = .ok (.aload_n 0, 1) := by decide +kernel
theorem dX8_countGalleries_9 : decode cX8_countGalleries 9 = .ok (.getfield 15, 3) := by decide +kernel
theorem dX8_countGalleries_12 : decode cX8_countGalleries 12 = .ok (.iconst 0, 1) := by decide +kernel
theorem dX8_countGalleries_13 : decode cX8_countGalleries 13 = .ok (.iconst 1, 1) := by decide +kernel
theorem dX8_countGalleries_14 : decode cX8_countGalleries 14 = .ok (.iastore, 1) := by decide +kernel
theorem dX8_countGalleries_15 : decode cX8_countGalleries 15 = .ok (.iconst 1, 1) := by decide +kernel
theorem dX8_countGalleries_16 : decode cX8_countGalleries 16 = .ok (.istore 4, 2) := by decide +kernel
theorem dX8_countGalleries_18 : decode cX8_countGalleries 18 = .ok (.iload 4, 2) := by decide +kernel
theorem dX8_countGalleries_20 : decode cX8_countGalleries 20 = .ok (.iload_n 3, 1) := by decide +kernel
theorem dX8_countGalleries_21 : decode cX8_countGalleries 21 = .ok (.if_icmp .gt 47, 3) := by decide +kernel
theorem dX8_countGalleries_24 : decode cX8_countGalleries 24 = .ok (.iload 4, 2) := by decide +kernel
theorem dX8_countGalleries_26 : decode cX8_countGalleries 26 = .ok (.iload_n 3, 1) := by decide +kernel
theorem dX8_countGalleries_27 : decode cX8_countGalleries 27 = .ok (.iconst (-1), 1) := by decide +kernel
theorem dX8_countGalleries_28 : decode cX8_countGalleries 28 = .ok (.ixor, 1) := by decide +kernel
theorem dX8_countGalleries_29 : decode cX8_countGalleries 29 = .ok (.iand, 1) := by decide +kernel
theorem dX8_countGalleries_30 : decode cX8_countGalleries 30 = .ok (.ifCond .ne 32, 3) := by decide +kernel
theorem dX8_countGalleries_33 : decode cX8_countGalleries 33 = .ok (.aload_n 0, 1) := by decide +kernel
theorem dX8_countGalleries_34 : decode cX8_countGalleries 34 = .ok (.getfield 15, 3) := by decide +kernel
theorem dX8_countGalleries_37 : decode cX8_countGalleries 37 = .ok (.iload 4, 2) := by decide +kernel
theorem dX8_countGalleries_39 : decode cX8_countGalleries 39 = .ok (.aload_n 0, 1) := by decide +kernel
theorem dX8_countGalleries_40 : decode cX8_countGalleries 40 = .ok (.getfield 9, 3) := by decide +kernel
theorem dX8_countGalleries_43 : decode cX8_countGalleries 43 = .ok (.iload_n 1, 1) := by decide +kernel
theorem dX8_countGalleries_44 : decode cX8_countGalleries 44 = .ok (.iload 4, 2) := by decide +kernel
theorem dX8_countGalleries_46 : decode cX8_countGalleries 46 = .ok (.ixor, 1) := by decide +kernel
theorem dX8_countGalleries_47 : decode cX8_countGalleries 47 = .ok (.baload, 1) := by decide +kernel
theorem dX8_countGalleries_48 : decode cX8_countGalleries 48 = .ok (.ifCond .eq 12, 3) := by decide +kernel
theorem dX8_countGalleries_51 : decode cX8_countGalleries 51 = .ok (.aload_n 0, 1) := by decide +kernel
theorem dX8_countGalleries_52 : decode cX8_countGalleries 52 = .ok (.iload 4, 2) := by decide +kernel
theorem dX8_countGalleries_54 : decode cX8_countGalleries 54 = .ok (.invokevirtual 87, 3) := by decide +kernel
theorem dX8_countGalleries_57 : decode cX8_countGalleries 57 = .ok (.goto 4, 3) := by decide +kernel
theorem dX8_countGalleries_60 : decode cX8_countGalleries 60 = .ok (.iconst 0, 1) := by decide +kernel
theorem dX8_countGalleries_61 : decode cX8_countGalleries 61 = .ok (.iastore, 1) := by decide +kernel
theorem dX8_countGalleries_62 : decode cX8_countGalleries 62 = .ok (.iinc 4 1, 3) := by decide +kernel
theorem dX8_countGalleries_65 : decode cX8_countGalleries 65 = .ok (.goto (-47), 3) := by decide +kernel
theorem dX8_countGalleries_68 : decode cX8_countGalleries 68 = .ok (.aload_n 0, 1) := by decide +kernel
theorem dX8_countGalleries_69 : decode cX8_countGalleries 69 = .ok (.getfield 15, 3) := by decide +kernel
theorem dX8_countGalleries_72 : decode cX8_countGalleries 72 = .ok (.iload_n 3, 1) := by decide +kernel
theorem dX8_countGalleries_73 : decode cX8_countGalleries 73 = .ok (.iaload, 1) := by decide +kernel
theorem dX8_countGalleries_74 : decode cX8_countGalleries 74 = .ok (.ireturn, 1) := by decide +kernel
theorem dX8_sumOfEarlier_0 : decode cX8_sumOfEarlier 0 = .ok (.iconst 0, 1) := by decide +kernel
theorem dX8_sumOfEarlier_1 : decode cX8_sumOfEarlier 1 = .ok (.istore_n 2, 1) := by decide +kernel
theorem dX8_sumOfEarlier_2 : decode cX8_sumOfEarlier 2 = .ok (.iconst 0, 1) := by decide +kernel
theorem dX8_sumOfEarlier_3 : decode cX8_sumOfEarlier 3 = .ok (.istore_n 3, 1) := by decide +kernel
theorem dX8_sumOfEarlier_4 : decode cX8_sumOfEarlier 4 = .ok (.iload_n 3, 1) := by decide +kernel
theorem dX8_sumOfEarlier_5 : decode cX8_sumOfEarlier 5 = .ok (.aload_n 0, 1) := by decide +kernel
theorem dX8_sumOfEarlier_6 : decode cX8_sumOfEarlier 6 = .ok (.getfield 32, 3) := by decide +kernel
theorem dX8_sumOfEarlier_9 : decode cX8_sumOfEarlier 9 = .ok (.getfield 78, 3) := by decide +kernel
theorem dX8_sumOfEarlier_12 : decode cX8_sumOfEarlier 12 = .ok (.if_icmp .ge 30, 3) := by decide +kernel
theorem dX8_sumOfEarlier_15 : decode cX8_sumOfEarlier 15 = .ok (.iload_n 1, 1) := by decide +kernel
theorem dX8_sumOfEarlier_16 : decode cX8_sumOfEarlier 16 = .ok (.iload_n 3, 1) := by decide +kernel
theorem dX8_sumOfEarlier_17 : decode cX8_sumOfEarlier 17 = .ok (.ishr, 1) := by decide +kernel
theorem dX8_sumOfEarlier_18 : decode cX8_sumOfEarlier 18 = .ok (.iconst 1, 1) := by decide +kernel
theorem dX8_sumOfEarlier_19 : decode cX8_sumOfEarlier 19 = .ok (.iand, 1) := by decide +kernel
theorem dX8_sumOfEarlier_20 : decode cX8_sumOfEarlier 20 = .ok (.ifCond .eq 16, 3) := by decide +kernel
theorem dX8_sumOfEarlier_23 : decode cX8_sumOfEarlier 23 = .ok (.iload_n 2, 1) := by decide +kernel
theorem dX8_sumOfEarlier_24 : decode cX8_sumOfEarlier 24 = .ok (.aload_n 0, 1) := by decide +kernel
theorem dX8_sumOfEarlier_25 : decode cX8_sumOfEarlier 25 = .ok (.getfield 15, 3) := by decide +kernel
theorem dX8_sumOfEarlier_28 : decode cX8_sumOfEarlier 28 = .ok (.iload_n 1, 1) := by decide +kernel
theorem dX8_sumOfEarlier_29 : decode cX8_sumOfEarlier 29 = .ok (.iconst 1, 1) := by decide +kernel
theorem dX8_sumOfEarlier_30 : decode cX8_sumOfEarlier 30 = .ok (.iload_n 3, 1) := by decide +kernel
theorem dX8_sumOfEarlier_31 : decode cX8_sumOfEarlier 31 = .ok (.ishl, 1) := by decide +kernel
theorem dX8_sumOfEarlier_32 : decode cX8_sumOfEarlier 32 = .ok (.ixor, 1) := by decide +kernel
theorem dX8_sumOfEarlier_33 : decode cX8_sumOfEarlier 33 = .ok (.iaload, 1) := by decide +kernel
theorem dX8_sumOfEarlier_34 : decode cX8_sumOfEarlier 34 = .ok (.iadd, 1) := by decide +kernel
theorem dX8_sumOfEarlier_35 : decode cX8_sumOfEarlier 35 = .ok (.istore_n 2, 1) := by decide +kernel
theorem dX8_sumOfEarlier_36 : decode cX8_sumOfEarlier 36 = .ok (.iinc 3 1, 3) := by decide +kernel
theorem dX8_sumOfEarlier_39 : decode cX8_sumOfEarlier 39 = .ok (.goto (-35), 3) := by decide +kernel
theorem dX8_sumOfEarlier_42 : decode cX8_sumOfEarlier 42 = .ok (.iload_n 2, 1) := by decide +kernel
theorem dX8_sumOfEarlier_43 : decode cX8_sumOfEarlier 43 = .ok (.ireturn, 1) := by decide +kernel
theorem dX9_init_0 : decode cX9_init 0 = .ok (.aload_n 0, 1) := by decide +kernel
theorem dX9_init_1 : decode cX9_init 1 = .ok (.invokespecial 3, 3) := by decide +kernel
theorem dX9_init_4 : decode cX9_init 4 = .ok (.aload_n 0, 1) := by decide +kernel
theorem dX9_init_5 : decode cX9_init 5 = .ok (.bipush 100, 2) := by decide +kernel
theorem dX9_init_7 : decode cX9_init 7 = .ok (.newarray .byte, 2) := by decide +kernel
theorem dX9_init_9 : decode cX9_init 9 = .ok (.putfield 9, 3) := by decide +kernel
theorem dX9_init_12 : decode cX9_init 12 = .ok (.aload_n 0, 1) := by decide +kernel
theorem dX9_init_13 : decode cX9_init 13 = .ok (.bipush 34, 2) := by decide +kernel
theorem dX9_init_15 : decode cX9_init 15 = .ok (.newarray .int, 2) := by decide +kernel
theorem dX9_init_17 : decode cX9_init 17 = .ok (.putfield 15, 3) := by decide +kernel
theorem dX9_init_20 : decode cX9_init 20 = .ok (.aload_n 0, 1) := by decide +kernel
theorem dX9_init_21 : decode cX9_init 21 = .ok (.sipush 136, 3) := by decide +kernel
theorem dX9_init_24 : decode cX9_init 24 = .ok (.newarray .int, 2) := by decide +kernel
theorem dX9_init_26 : decode cX9_init 26 = .ok (.putfield 19, 3) := by decide +kernel
theorem dX9_init_29 : decode cX9_init 29 = .ok (.return_, 1) := by decide +kernel
theorem dX9_append_0 : decode cX9_append 0 = .ok (.aload_n 0, 1) := by decide +kernel
theorem dX9_append_1 : decode cX9_append 1 = .ok (.getfield 22, 3) := by decide +kernel
theorem dX9_append_4 : decode cX9_append 4 = .ok (.bipush 100, 2) := by decide +kernel
theorem dX9_append_6 : decode cX9_append 6 = .ok (.if_icmp .lt 5, 3) := by decide +kernel
theorem dX9_append_9 : decode cX9_append 9 = .ok (.iconst 0, 1) := by decide +kernel
theorem dX9_append_10 : decode cX9_append 10 = .ok (.ireturn, 1) := by decide +kernel
theorem dX9_append_11 : decode cX9_append 11 = .ok (.aload_n 0, 1) := by decide +kernel
theorem dX9_append_12 : decode cX9_append 12 = .ok (.getfield 9, 3) := by decide +kernel
theorem dX9_append_15 : decode cX9_append 15 = .ok (.aload_n 0, 1) := by decide +kernel
theorem dX9_append_16 : decode cX9_append 16 = .ok (.getfield 22, 3) := by decide +kernel
theorem dX9_append_19 : decode cX9_append 19 = .ok (.iload_n 1, 1) := by decide +kernel
theorem dX9_append_20 : decode cX9_append 20 = .ok (.i2b, 1) := by decide +kernel
theorem dX9_append_21 : decode cX9_append 21 = .ok (.bastore, 1) := by decide +kernel
theorem dX9_append_22 : decode cX9_append 22 = .ok (.aload_n 0, 1) := by decide +kernel
theorem dX9_append_23 : decode cX9_append 23 = .ok (.dup, 1) := by decide +kernel
theorem dX9_append_24 : decode cX9_append 24 = .ok (.getfield 22, 3) := by decide +kernel
theorem dX9_append_27 : decode cX9_append 27 = .ok (.iconst 1, 1) := by decide +kernel
theorem dX9_append_28 : decode cX9_append 28 = .ok (.iadd, 1) := by decide +kernel
theorem dX9_append_29 : decode cX9_append 29 = .ok (.putfield 22, 3) := by decide +kernel
theorem dX9_append_32 : decode cX9_append 32 = .ok (.iconst 1, 1) := by decide +kernel
theorem dX9_append_33 : decode cX9_append 33 = .ok (.ireturn, 1) := by decide +kernel
theorem dX9_verb_0 : decode cX9_verb 0 = .ok (.aload_n 0, 1) := by decide +kernel
theorem dX9_verb_1 : decode cX9_verb 1 = .ok (.getfield 15, 3) := by decide +kernel
theorem dX9_verb_4 : decode cX9_verb 4 = .ok (.iload_n 1, 1) := by decide +kernel
theorem dX9_verb_5 : decode cX9_verb 5 = .ok (.iaload, 1) := by decide +kernel
theorem dX9_verb_6 : decode cX9_verb 6 = .ok (.ireturn, 1) := by decide +kernel
theorem dX9_number_0 : decode cX9_number 0 = .ok (.aload_n 0, 1) := by decide +kernel
theorem dX9_number_1 : decode cX9_number 1 = .ok (.getfield 19, 3) := by decide +kernel
theorem dX9_number_4 : decode cX9_number 4 = .ok (.iload_n 1, 1) := by decide +kernel
theorem dX9_number_5 : decode cX9_number 5 = .ok (.iconst 4, 1) := by decide +kernel
theorem dX9_number_6 : decode cX9_number 6 = .ok (.imul, 1) := by decide +kernel
theorem dX9_number_7 : decode cX9_number 7 = .ok (.iload_n 2, 1) := by decide +kernel
theorem dX9_number_8 : decode cX9_number 8 = .ok (.iadd, 1) := by decide +kernel
theorem dX9_number_9 : decode cX9_number 9 = .ok (.iaload, 1) := by decide +kernel
theorem dX9_number_10 : decode cX9_number 10 = .ok (.ireturn, 1) := by decide +kernel
theorem dX9_parse_0 : decode cX9_parse 0 = .ok (.iload_n 1, 1) := by decide +kernel
theorem dX9_parse_1 : decode cX9_parse 1 = .ok (.istore_n 2, 1) := by decide +kernel
theorem dX9_parse_2 : decode cX9_parse 2 = .ok (.aload_n 0, 1) := by decide +kernel
theorem dX9_parse_3 : decode cX9_parse 3 = .ok (.iconst 0, 1) := by decide +kernel
theorem dX9_parse_4 : decode cX9_parse 4 = .ok (.putfield 26, 3) := by decide +kernel
theorem dX9_parse_7 : decode cX9_parse 7 = .ok (.aload_n 0, 1) := by decide +kernel
theorem dX9_parse_8 : decode cX9_parse 8 = .ok (.iconst 0, 1) := by decide +kernel
theorem dX9_parse_9 : decode cX9_parse 9 = .ok (.putfield 29, 3) := by decide +kernel
theorem dX9_parse_12 : decode cX9_parse 12 = .ok (.aload_n 0, 1) := by decide +kernel
theorem dX9_parse_13 : decode cX9_parse 13 = .ok (.invokevirtual 32, 3) := by decide +kernel
theorem dX9_parse_16 : decode cX9_parse 16 = .ok (.iconst 0, 1) := by decide +kernel
theorem dX9_parse_17 : decode cX9_parse 17 = .ok (.istore_n 3, 1) := by decide +kernel
theorem dX9_parse_18 : decode cX9_parse 18 = .ok (.iload_n 3, 1) := by decide +kernel
theorem dX9_parse_19 : decode cX9_parse 19 = .ok (.bipush 34, 2) := by decide +kernel
theorem dX9_parse_21 : decode cX9_parse 21 = .ok (.if_icmp .ge 61, 3) := by decide +kernel
theorem dX9_parse_24 : decode cX9_parse 24 = .ok (.iload_n 3, 1) := by decide +kernel
theorem dX9_parse_25 : decode cX9_parse 25 = .ok (.ifCond .le 16, 3) := by decide +kernel
theorem dX9_parse_28 : decode cX9_parse 28 = .ok (.aload_n 0, 1) := by decide +kernel
theorem dX9_parse_29 : decode cX9_parse 29 = .ok (.getfield 29, 3) := by decide +kernel
theorem dX9_parse_32 : decode cX9_parse 32 = .ok (.aload_n 0, 1) := by decide +kernel
theorem dX9_parse_33 : decode cX9_parse 33 = .ok (.getfield 22, 3) := by decide +kernel
theorem dX9_parse_36 : decode cX9_parse 36 = .ok (.if_icmp .lt 5, 3) := by decide +kernel
theorem dX9_parse_39 : decode cX9_parse 39 = .ok (.iconst (-1), 1) := by decide +kernel
theorem dX9_parse_40 : decode cX9_parse 40 = .ok (.ireturn, 1) := by decide +kernel
theorem dX9_parse_41 : decode cX9_parse 41 = .ok (.aload_n 0, 1) := by decide +kernel
theorem dX9_parse_42 : decode cX9_parse 42 = .ok (.iload_n 2, 1) := by decide +kernel
theorem dX9_parse_43 : decode cX9_parse 43 = .ok (.invokevirtual 35, 3) := by decide +kernel
theorem dX9_parse_46 : decode cX9_parse 46 = .ok (.ifCond .ne 8, 3) := by decide +kernel
theorem dX9_parse_49 : decode cX9_parse 49 = .ok (.aload_n 0, 1) := by decide +kernel
theorem dX9_parse_50 : decode cX9_parse 50 = .ok (.getfield 29, 3) := by decide +kernel
theorem dX9_parse_53 : decode cX9_parse 53 = .ok (.ireturn, 1) := by decide +kernel
theorem dX9_parse_54 : decode cX9_parse 54 = .ok (.aload_n 0, 1) := by decide +kernel
theorem dX9_parse_55 : decode cX9_parse 55 = .ok (.getfield 15, 3) := by decide +kernel
theorem dX9_parse_58 : decode cX9_parse 58 = .ok (.iload_n 3, 1) := by decide +kernel
theorem dX9_parse_59 : decode cX9_parse 59 = .ok (.iaload, 1) := by decide +kernel
theorem dX9_parse_60 : decode cX9_parse 60 = .ok (.bipush 100, 2) := by decide +kernel
theorem dX9_parse_62 : decode cX9_parse 62 = .ok (.if_icmp .ne 10, 3) := by decide +kernel
theorem dX9_parse_65 : decode cX9_parse 65 = .ok (.aload_n 0, 1) := by decide +kernel
theorem dX9_parse_66 : decode cX9_parse 66 = .ok (.iload_n 3, 1) := by decide +kernel
theorem dX9_parse_67 : decode cX9_parse 67 = .ok (.iconst 0, 1) := by decide +kernel
theorem dX9_parse_68 : decode cX9_parse 68 = .ok (.invokevirtual 39, 3) := by decide +kernel
theorem dX9_parse_71 : decode cX9_parse 71 = .ok (.istore_n 2, 1) := by decide +kernel
theorem dX9_parse_72 : decode cX9_parse 72 = .ok (.aload_n 0, 1) := by decide +kernel
theorem dX9_parse_73 : decode cX9_parse 73 = .ok (.invokevirtual 32, 3) := by decide +kernel
theorem dX9_parse_76 : decode cX9_parse 76 = .ok (.iinc 3 1, 3) := by decide +kernel
theorem dX9_parse_79 : decode cX9_parse 79 = .ok (.goto (-61), 3) := by decide +kernel
theorem dX9_parse_82 : decode cX9_parse 82 = .ok (.aload_n 0, 1) := by decide +kernel
theorem dX9_parse_83 : decode cX9_parse 83 = .ok (.getfield 29, 3) := by decide +kernel
theorem dX9_parse_86 : decode cX9_parse 86 = .ok (.ireturn, 1) := by decide +kernel
theorem dX9_readCommand_0 : decode cX9_readCommand 0 = .ok (.aload_n 0, 1) := by decide +kernel
theorem dX9_readCommand_1 : decode cX9_readCommand 1 = .ok (.getfield 29, 3) := by decide +kernel
theorem dX9_readCommand_4 : decode cX9_readCommand 4 = .ok (.aload_n 0, 1) := by decide +kernel
theorem dX9_readCommand_5 : decode cX9_readCommand 5 = .ok (.getfield 22, 3) := by decide +kernel
theorem dX9_readCommand_8 : decode cX9_readCommand 8 = .ok (.if_icmp .ge 12, 3) := by decide +kernel
theorem dX9_readCommand_11 : decode cX9_readCommand 11 = .ok (.aload_n 0, 1) := by decide +kernel
theorem dX9_readCommand_12 : decode cX9_readCommand 12 = .ok (.getfield 26, 3) := by decide +kernel
theorem dX9_readCommand_15 : decode cX9_readCommand 15 = .ok (.bipush 34, 2) := by decide +kernel
theorem dX9_readCommand_17 : decode cX9_readCommand 17 = .ok (.if_icmp .lt 5, 3) := by decide +kernel
theorem dX9_readCommand_20 : decode cX9_readCommand 20 = .ok (.iconst 0, 1) := by decide +kernel
theorem dX9_readCommand_21 : decode cX9_readCommand 21 = .ok (.ireturn, 1) := by decide +kernel
theorem dX9_readCommand_22 : decode cX9_readCommand 22 = .ok (.aload_n 0, 1) := by decide +kernel
theorem dX9_readCommand_23 : decode cX9_readCommand 23 = .ok (.getfield 9, 3) := by decide +kernel
theorem dX9_readCommand_26 : decode cX9_readCommand 26 = .ok (.aload_n 0, 1) := by decide +kernel
theorem dX9_readCommand_27 : decode cX9_readCommand 27 = .ok (.getfield 29, 3) := by decide +kernel
theorem dX9_readCommand_30 : decode cX9_readCommand 30 = .ok (.baload, 1) := by decide +kernel
theorem dX9_readCommand_31 : decode cX9_readCommand 31 = .ok (.istore_n 2, 1) := by decide +kernel
theorem dX9_readCommand_32 : decode cX9_readCommand 32 = .ok (.iload_n 2, 1) := by decide +kernel
theorem dX9_readCommand_33 : decode cX9_readCommand 33 = .ok (.iload_n 1, 1) := by decide +kernel
theorem dX9_readCommand_34 : decode cX9_readCommand 34 = .ok (.invokestatic 43, 3) := by decide +kernel
theorem dX9_readCommand_37 : decode cX9_readCommand 37 = .ok (.istore_n 3, 1) := by decide +kernel
theorem dX9_readCommand_38 : decode cX9_readCommand 38 = .ok (.iload_n 3, 1) := by decide +kernel
theorem dX9_readCommand_39 : decode cX9_readCommand 39 = .ok (.ifCond .ne 5, 3) := by decide +kernel
theorem dX9_readCommand_42 : decode cX9_readCommand 42 = .ok (.iconst 0, 1) := by decide +kernel
theorem dX9_readCommand_43 : decode cX9_readCommand 43 = .ok (.ireturn, 1) := by decide +kernel
theorem dX9_readCommand_44 : decode cX9_readCommand 44 = .ok (.aload_n 0, 1) := by decide +kernel
theorem dX9_readCommand_45 : decode cX9_readCommand 45 = .ok (.dup, 1) := by decide +kernel
theorem dX9_readCommand_46 : decode cX9_readCommand 46 = .ok (.getfield 29, 3) := by decide +kernel
theorem dX9_readCommand_49 : decode cX9_readCommand 49 = .ok (.iconst 1, 1) := by decide +kernel
theorem dX9_readCommand_50 : decode cX9_readCommand 50 = .ok (.iadd, 1) := by decide +kernel
theorem dX9_readCommand_51 : decode cX9_readCommand 51 = .ok (.putfield 29, 3) := by decide +kernel
theorem dX9_readCommand_54 : decode cX9_readCommand 54 = .ok (.aload_n 0, 1) := by decide +kernel
theorem dX9_readCommand_55 : decode cX9_readCommand 55 = .ok (.getfield 15, 3) := by decide +kernel
theorem dX9_readCommand_58 : decode cX9_readCommand 58 = .ok (.aload_n 0, 1) := by decide +kernel
theorem dX9_readCommand_59 : decode cX9_readCommand 59 = .ok (.getfield 26, 3) := by decide +kernel
theorem dX9_readCommand_62 : decode cX9_readCommand 62 = .ok (.iload_n 2, 1) := by decide +kernel
theorem dX9_readCommand_63 : decode cX9_readCommand 63 = .ok (.iastore, 1) := by decide +kernel
theorem dX9_readCommand_64 : decode cX9_readCommand 64 = .ok (.iconst 0, 1) := by decide +kernel
theorem dX9_readCommand_65 : decode cX9_readCommand 65 = .ok (.istore 4, 2) := by decide +kernel
theorem dX9_readCommand_67 : decode cX9_readCommand 67 = .ok (.iload 4, 2) := by decide +kernel
theorem dX9_readCommand_69 : decode cX9_readCommand 69 = .ok (.iconst 4, 1) := by decide +kernel
theorem dX9_readCommand_70 : decode cX9_readCommand 70 = .ok (.if_icmp .ge 24, 3) := by decide +kernel
theorem dX9_readCommand_73 : decode cX9_readCommand 73 = .ok (.aload_n 0, 1) := by decide +kernel
theorem dX9_readCommand_74 : decode cX9_readCommand 74 = .ok (.getfield 19, 3) := by decide +kernel
theorem dX9_readCommand_77 : decode cX9_readCommand 77 = .ok (.aload_n 0, 1) := by decide +kernel
theorem dX9_readCommand_78 : decode cX9_readCommand 78 = .ok (.getfield 26, 3) := by decide +kernel
theorem dX9_readCommand_81 : decode cX9_readCommand 81 = .ok (.iconst 4, 1) := by decide +kernel
theorem dX9_readCommand_82 : decode cX9_readCommand 82 = .ok (.imul, 1) := by decide +kernel
theorem dX9_readCommand_83 : decode cX9_readCommand 83 = .ok (.iload 4, 2) := by decide +kernel
theorem dX9_readCommand_85 : decode cX9_readCommand 85 = .ok (.iadd, 1) := by decide +kernel
theorem dX9_readCommand_86 : decode cX9_readCommand 86 = .ok (.iconst 0, 1) := by decide +kernel
theorem dX9_readCommand_87 : decode cX9_readCommand 87 = .ok (.iastore, 1) := by decide +kernel
theorem dX9_readCommand_88 : decode cX9_readCommand 88 = .ok (.iinc 4 1, 3) := by decide +kernel
theorem dX9_readCommand_91 : decode cX9_readCommand 91 = .ok (.goto (-24), 3) := by decide +kernel
theorem dX9_readCommand_94 : decode cX9_readCommand 94 = .ok (.iconst 0, 1) := by decide +kernel
theorem dX9_readCommand_95 : decode cX9_readCommand 95 = .ok (.istore 4, 2) := by decide +kernel
theorem dX9_readCommand_97 : decode cX9_readCommand 97 = .ok (.iload 4, 2) := by decide +kernel
theorem dX9_readCommand_99 : decode cX9_readCommand 99 = .ok (.iload_n 3, 1) := by decide +kernel
theorem dX9_readCommand_100 : decode cX9_readCommand 100 = .ok (.if_icmp .ge 28, 3) := by decide +kernel
theorem dX9_readCommand_103 : decode cX9_readCommand 103 = .ok (.aload_n 0, 1) := by decide +kernel
theorem dX9_readCommand_104 : decode cX9_readCommand 104 = .ok (.iload_n 2, 1) := by decide +kernel
theorem dX9_readCommand_105 : decode cX9_readCommand 105 = .ok (.aload_n 0, 1) := by decide +kernel
theorem dX9_readCommand_106 : decode cX9_readCommand 106 = .ok (.getfield 26, 3) := by decide +kernel
theorem dX9_readCommand_109 : decode cX9_readCommand 109 = .ok (.iconst 4, 1) := by decide +kernel
theorem dX9_readCommand_110 : decode cX9_readCommand 110 = .ok (.imul, 1) := by decide +kernel
theorem dX9_readCommand_111 : decode cX9_readCommand 111 = .ok (.iload 4, 2) := by decide +kernel
theorem dX9_readCommand_113 : decode cX9_readCommand 113 = .ok (.iadd, 1) := by decide +kernel
theorem dX9_readCommand_114 : decode cX9_readCommand 114 = .ok (.invokevirtual 46, 3) := by decide +kernel
theorem dX9_readCommand_117 : decode cX9_readCommand 117 = .ok (.ifCond .ne 5, 3) := by decide +kernel
theorem dX9_readCommand_120 : decode cX9_readCommand 120 = .ok (.iconst 0, 1) := by decide +kernel
theorem dX9_readCommand_121 : decode cX9_readCommand 121 = .ok (.ireturn, 1) := by decide +kernel
theorem dX9_readCommand_122 : decode cX9_readCommand 122 = .ok (.iinc 4 1, 3) := by decide +kernel
theorem dX9_readCommand_125 : decode cX9_readCommand 125 = .ok (.goto (-28), 3) := by decide +kernel
theorem dX9_readCommand_128 : decode cX9_readCommand 128 = .ok (.aload_n 0, 1) := by decide +kernel
theorem dX9_readCommand_129 : decode cX9_readCommand 129 = .ok (.invokevirtual 32, 3) := by decide +kernel
theorem dX9_readCommand_132 : decode cX9_readCommand 132 = .ok (.aload_n 0, 1) := by decide +kernel
theorem dX9_readCommand_133 : decode cX9_readCommand 133 = .ok (.bipush 59, 2) := by decide +kernel
theorem dX9_readCommand_135 : decode cX9_readCommand 135 = .ok (.bipush 59, 2) := by decide +kernel
theorem dX9_readCommand_137 : decode cX9_readCommand 137 = .ok (.invokevirtual 50, 3) := by decide +kernel
theorem dX9_readCommand_140 : decode cX9_readCommand 140 = .ok (.ifCond .ne 5, 3) := by decide +kernel
theorem dX9_readCommand_143 : decode cX9_readCommand 143 = .ok (.iconst 0, 1) := by decide +kernel
theorem dX9_readCommand_144 : decode cX9_readCommand 144 = .ok (.ireturn, 1) := by decide +kernel
theorem dX9_readCommand_145 : decode cX9_readCommand 145 = .ok (.aload_n 0, 1) := by decide +kernel
theorem dX9_readCommand_146 : decode cX9_readCommand 146 = .ok (.dup, 1) := by decide +kernel
theorem dX9_readCommand_147 : decode cX9_readCommand 147 = .ok (.getfield 29, 3) := by decide +kernel
theorem dX9_readCommand_150 : decode cX9_readCommand 150 = .ok (.iconst 1, 1) := by decide +kernel
theorem dX9_readCommand_151 : decode cX9_readCommand 151 = .ok (.iadd, 1) := by decide +kernel
theorem dX9_readCommand_152 : decode cX9_readCommand 152 = .ok (.putfield 29, 3) := by decide +kernel
theorem dX9_readCommand_155 : decode cX9_readCommand 155 = .ok (.aload_n 0, 1) := by decide +kernel
theorem dX9_readCommand_156 : decode cX9_readCommand 156 = .ok (.dup, 1) := by decide +kernel
theorem dX9_readCommand_157 : decode cX9_readCommand 157 = .ok (.getfield 26, 3) := by decide +kernel
theorem dX9_readCommand_160 : decode cX9_readCommand 160 = .ok (.iconst 1, 1) := by decide +kernel
theorem dX9_readCommand_161 : decode cX9_readCommand 161 = .ok (.iadd, 1) := by decide +kernel
theorem dX9_readCommand_162 : decode cX9_readCommand 162 = .ok (.putfield 26, 3) := by decide +kernel
theorem dX9_readCommand_165 : decode cX9_readCommand 165 = .ok (.iconst 1, 1) := by decide +kernel
theorem dX9_readCommand_166 : decode cX9_readCommand 166 = .ok (.ireturn, 1) := by decide +kernel
theorem dX9_countNumbers_0 : decode cX9_countNumbers 0 = .ok (.iload_n 0, 1) := by decide +kernel
theorem dX9_countNumbers_1 : decode cX9_countNumbers 1 = .ok (.lookupswitch 65 #[(100, 59), (109, 59), (112, 63), (115, 61), (116, 59), (120, 59)], 59) := by decide +kernel
theorem dX9_countNumbers_60 : decode cX9_countNumbers 60 = .ok (.iconst 1, 1) := by decide +kernel
theorem dX9_countNumbers_61 : decode cX9_countNumbers 61 = .ok (.ireturn, 1) := by decide +kernel
theorem dX9_countNumbers_62 : decode cX9_countNumbers 62 = .ok (.iconst 2, 1) := by decide +kernel
theorem dX9_countNumbers_63 : decode cX9_countNumbers 63 = .ok (.ireturn, 1) := by decide +kernel
theorem dX9_countNumbers_64 : decode cX9_countNumbers 64 = .ok (.iload_n 1, 1) := by decide +kernel
theorem dX9_countNumbers_65 : decode cX9_countNumbers 65 = .ok (.ireturn, 1) := by decide +kernel
theorem dX9_countNumbers_66 : decode cX9_countNumbers 66 = .ok (.iconst 0, 1) := by decide +kernel
theorem dX9_countNumbers_67 : decode cX9_countNumbers 67 = .ok (.ireturn, 1) := by decide +kernel
theorem dX9_readNumber_0 : decode cX9_readNumber 0 = .ok (.aload_n 0, 1) := by decide +kernel
theorem dX9_readNumber_1 : decode cX9_readNumber 1 = .ok (.invokevirtual 32, 3) := by decide +kernel
theorem dX9_readNumber_4 : decode cX9_readNumber 4 = .ok (.iload_n 1, 1) := by decide +kernel
theorem dX9_readNumber_5 : decode cX9_readNumber 5 = .ok (.bipush 112, 2) := by decide +kernel
theorem dX9_readNumber_7 : decode cX9_readNumber 7 = .ok (.if_icmp .ne 18, 3) := by decide +kernel
theorem dX9_readNumber_10 : decode cX9_readNumber 10 = .ok (.aload_n 0, 1) := by decide +kernel
theorem dX9_readNumber_11 : decode cX9_readNumber 11 = .ok (.bipush 45, 2) := by decide +kernel
theorem dX9_readNumber_13 : decode cX9_readNumber 13 = .ok (.bipush 45, 2) := by decide +kernel
theorem dX9_readNumber_15 : decode cX9_readNumber 15 = .ok (.invokevirtual 50, 3) := by decide +kernel
theorem dX9_readNumber_18 : decode cX9_readNumber 18 = .ok (.ifCond .eq 7, 3) := by decide +kernel
theorem dX9_readNumber_21 : decode cX9_readNumber 21 = .ok (.iconst 1, 1) := by decide +kernel
theorem dX9_readNumber_22 : decode cX9_readNumber 22 = .ok (.goto 4, 3) := by decide +kernel
theorem dX9_readNumber_25 : decode cX9_readNumber 25 = .ok (.iconst 0, 1) := by decide +kernel
theorem dX9_readNumber_26 : decode cX9_readNumber 26 = .ok (.istore_n 3, 1) := by decide +kernel
theorem dX9_readNumber_27 : decode cX9_readNumber 27 = .ok (.bipush 48, 2) := by decide +kernel
theorem dX9_readNumber_29 : decode cX9_readNumber 29 = .ok (.istore 4, 2) := by decide +kernel
theorem dX9_readNumber_31 : decode cX9_readNumber 31 = .ok (.bipush 57, 2) := by decide +kernel
theorem dX9_readNumber_33 : decode cX9_readNumber 33 = .ok (.istore 5, 2) := by decide +kernel
theorem dX9_readNumber_35 : decode cX9_readNumber 35 = .ok (.iload_n 3, 1) := by decide +kernel
theorem dX9_readNumber_36 : decode cX9_readNumber 36 = .ok (.ifCond .eq 20, 3) := by decide +kernel
theorem dX9_readNumber_39 : decode cX9_readNumber 39 = .ok (.aload_n 0, 1) := by decide +kernel
theorem dX9_readNumber_40 : decode cX9_readNumber 40 = .ok (.dup, 1) := by decide +kernel
theorem dX9_readNumber_41 : decode cX9_readNumber 41 = .ok (.getfield 29, 3) := by decide +kernel
theorem dX9_readNumber_44 : decode cX9_readNumber 44 = .ok (.iconst 1, 1) := by decide +kernel
theorem dX9_readNumber_45 : decode cX9_readNumber 45 = .ok (.iadd, 1) := by decide +kernel
theorem dX9_readNumber_46 : decode cX9_readNumber 46 = .ok (.putfield 29, 3) := by decide +kernel
theorem dX9_readNumber_49 : decode cX9_readNumber 49 = .ok (.bipush 49, 2) := by decide +kernel
theorem dX9_readNumber_51 : decode cX9_readNumber 51 = .ok (.istore 4, 2) := by decide +kernel
theorem dX9_readNumber_53 : decode cX9_readNumber 53 = .ok (.goto 17, 3) := by decide +kernel
theorem dX9_readNumber_56 : decode cX9_readNumber 56 = .ok (.iload_n 1, 1) := by decide +kernel
theorem dX9_readNumber_57 : decode cX9_readNumber 57 = .ok (.bipush 100, 2) := by decide +kernel
theorem dX9_readNumber_59 : decode cX9_readNumber 59 = .ok (.if_icmp .ne 11, 3) := by decide +kernel
theorem dX9_readNumber_62 : decode cX9_readNumber 62 = .ok (.bipush 50, 2) := by decide +kernel
theorem dX9_readNumber_64 : decode cX9_readNumber 64 = .ok (.istore 4, 2) := by decide +kernel
theorem dX9_readNumber_66 : decode cX9_readNumber 66 = .ok (.bipush 52, 2) := by decide +kernel
theorem dX9_readNumber_68 : decode cX9_readNumber 68 = .ok (.istore 5, 2) := by decide +kernel
theorem dX9_readNumber_70 : decode cX9_readNumber 70 = .ok (.aload_n 0, 1) := by decide +kernel
theorem dX9_readNumber_71 : decode cX9_readNumber 71 = .ok (.iload 4, 2) := by decide +kernel
theorem dX9_readNumber_73 : decode cX9_readNumber 73 = .ok (.iload 5, 2) := by decide +kernel
theorem dX9_readNumber_75 : decode cX9_readNumber 75 = .ok (.invokevirtual 50, 3) := by decide +kernel
theorem dX9_readNumber_78 : decode cX9_readNumber 78 = .ok (.ifCond .ne 5, 3) := by decide +kernel
theorem dX9_readNumber_81 : decode cX9_readNumber 81 = .ok (.iconst 0, 1) := by decide +kernel
theorem dX9_readNumber_82 : decode cX9_readNumber 82 = .ok (.ireturn, 1) := by decide +kernel
theorem dX9_readNumber_83 : decode cX9_readNumber 83 = .ok (.aload_n 0, 1) := by decide +kernel
theorem dX9_readNumber_84 : decode cX9_readNumber 84 = .ok (.getfield 9, 3) := by decide +kernel
theorem dX9_readNumber_87 : decode cX9_readNumber 87 = .ok (.aload_n 0, 1) := by decide +kernel
theorem dX9_readNumber_88 : decode cX9_readNumber 88 = .ok (.getfield 29, 3) := by decide +kernel
theorem dX9_readNumber_91 : decode cX9_readNumber 91 = .ok (.baload, 1) := by decide +kernel
theorem dX9_readNumber_92 : decode cX9_readNumber 92 = .ok (.bipush 48, 2) := by decide +kernel
theorem dX9_readNumber_94 : decode cX9_readNumber 94 = .ok (.isub, 1) := by decide +kernel
theorem dX9_readNumber_95 : decode cX9_readNumber 95 = .ok (.istore 6, 2) := by decide +kernel
theorem dX9_readNumber_97 : decode cX9_readNumber 97 = .ok (.aload_n 0, 1) := by decide +kernel
theorem dX9_readNumber_98 : decode cX9_readNumber 98 = .ok (.getfield 19, 3) := by decide +kernel
theorem dX9_readNumber_101 : decode cX9_readNumber 101 = .ok (.iload_n 2, 1) := by decide +kernel
theorem dX9_readNumber_102 : decode cX9_readNumber 102 = .ok (.iload_n 3, 1) := by decide +kernel
theorem dX9_readNumber_103 : decode cX9_readNumber 103 = .ok (.ifCond .eq 9, 3) := by decide +kernel
theorem dX9_readNumber_106 : decode cX9_readNumber 106 = .ok (.iload 6, 2) := by decide +kernel
theorem dX9_readNumber_108 : decode cX9_readNumber 108 = .ok (.ineg, 1) := by decide +kernel
theorem dX9_readNumber_109 : decode cX9_readNumber 109 = .ok (.goto 5, 3) := by decide +kernel
theorem dX9_readNumber_112 : decode cX9_readNumber 112 = .ok (.iload 6, 2) := by decide +kernel
theorem dX9_readNumber_114 : decode cX9_readNumber 114 = .ok (.iastore, 1) := by decide +kernel
theorem dX9_readNumber_115 : decode cX9_readNumber 115 = .ok (.aload_n 0, 1) := by decide +kernel
theorem dX9_readNumber_116 : decode cX9_readNumber 116 = .ok (.dup, 1) := by decide +kernel
theorem dX9_readNumber_117 : decode cX9_readNumber 117 = .ok (.getfield 29, 3) := by decide +kernel
theorem dX9_readNumber_120 : decode cX9_readNumber 120 = .ok (.iconst 1, 1) := by decide +kernel
theorem dX9_readNumber_121 : decode cX9_readNumber 121 = .ok (.iadd, 1) := by decide +kernel
theorem dX9_readNumber_122 : decode cX9_readNumber 122 = .ok (.putfield 29, 3) := by decide +kernel
theorem dX9_readNumber_125 : decode cX9_readNumber 125 = .ok (.iconst 1, 1) := by decide +kernel
theorem dX9_readNumber_126 : decode cX9_readNumber 126 = .ok (.ireturn, 1) := by decide +kernel
theorem dX9_isBetween_0 : decode cX9_isBetween 0 = .ok (.aload_n 0, 1) := by decide +kernel
theorem dX9_isBetween_1 : decode cX9_isBetween 1 = .ok (.getfield 29, 3) := by decide +kernel
theorem dX9_isBetween_4 : decode cX9_isBetween 4 = .ok (.aload_n 0, 1) := by decide +kernel
theorem dX9_isBetween_5 : decode cX9_isBetween 5 = .ok (.getfield 22, 3) := by decide +kernel
theorem dX9_isBetween_8 : decode cX9_isBetween 8 = .ok (.if_icmp .ge 33, 3) := by decide +kernel
theorem dX9_isBetween_11 : decode cX9_isBetween 11 = .ok (.aload_n 0, 1) := by decide +kernel
theorem dX9_isBetween_12 : decode cX9_isBetween 12 = .ok (.getfield 9, 3) := by decide +kernel
theorem dX9_isBetween_15 : decode cX9_isBetween 15 = .ok (.aload_n 0, 1) := by decide +kernel
theorem dX9_isBetween_16 : decode cX9_isBetween 16 = .ok (.getfield 29, 3) := by decide +kernel
theorem dX9_isBetween_19 : decode cX9_isBetween 19 = .ok (.baload, 1) := by decide +kernel
theorem dX9_isBetween_20 : decode cX9_isBetween 20 = .ok (.iload_n 1, 1) := by decide +kernel
theorem dX9_isBetween_21 : decode cX9_isBetween 21 = .ok (.if_icmp .lt 20, 3) := by decide +kernel
theorem dX9_isBetween_24 : decode cX9_isBetween 24 = .ok (.aload_n 0, 1) := by decide +kernel
theorem dX9_isBetween_25 : decode cX9_isBetween 25 = .ok (.getfield 9, 3) := by decide +kernel
theorem dX9_isBetween_28 : decode cX9_isBetween 28 = .ok (.aload_n 0, 1) := by decide +kernel
theorem dX9_isBetween_29 : decode cX9_isBetween 29 = .ok (.getfield 29, 3) := by decide +kernel
theorem dX9_isBetween_32 : decode cX9_isBetween 32 = .ok (.baload, 1) := by decide +kernel
theorem dX9_isBetween_33 : decode cX9_isBetween 33 = .ok (.iload_n 2, 1) := by decide +kernel
theorem dX9_isBetween_34 : decode cX9_isBetween 34 = .ok (.if_icmp .gt 7, 3) := by decide +kernel
theorem dX9_isBetween_37 : decode cX9_isBetween 37 = .ok (.iconst 1, 1) := by decide +kernel
theorem dX9_isBetween_38 : decode cX9_isBetween 38 = .ok (.goto 4, 3) := by decide +kernel
theorem dX9_isBetween_41 : decode cX9_isBetween 41 = .ok (.iconst 0, 1) := by decide +kernel
theorem dX9_isBetween_42 : decode cX9_isBetween 42 = .ok (.ireturn, 1) := by decide +kernel
theorem dX9_skipSpaces_0 : decode cX9_skipSpaces 0 = .ok (.iconst 0, 1) := by decide +kernel
theorem dX9_skipSpaces_1 : decode cX9_skipSpaces 1 = .ok (.istore_n 1, 1) := by decide +kernel
theorem dX9_skipSpaces_2 : decode cX9_skipSpaces 2 = .ok (.iload_n 1, 1) := by decide +kernel
theorem dX9_skipSpaces_3 : decode cX9_skipSpaces 3 = .ok (.bipush 100, 2) := by decide +kernel
theorem dX9_skipSpaces_5 : decode cX9_skipSpaces 5 = .ok (.if_icmp .ge 30, 3) := by decide +kernel
theorem dX9_skipSpaces_8 : decode cX9_skipSpaces 8 = .ok (.aload_n 0, 1) := by decide +kernel
theorem dX9_skipSpaces_9 : decode cX9_skipSpaces 9 = .ok (.bipush 32, 2) := by decide +kernel
theorem dX9_skipSpaces_11 : decode cX9_skipSpaces 11 = .ok (.bipush 32, 2) := by decide +kernel
theorem dX9_skipSpaces_13 : decode cX9_skipSpaces 13 = .ok (.invokevirtual 50, 3) := by decide +kernel
theorem dX9_skipSpaces_16 : decode cX9_skipSpaces 16 = .ok (.ifCond .eq 19, 3) := by decide +kernel
theorem dX9_skipSpaces_19 : decode cX9_skipSpaces 19 = .ok (.aload_n 0, 1) := by decide +kernel
theorem dX9_skipSpaces_20 : decode cX9_skipSpaces 20 = .ok (.dup, 1) := by decide +kernel
theorem dX9_skipSpaces_21 : decode cX9_skipSpaces 21 = .ok (.getfield 29, 3) := by decide +kernel
theorem dX9_skipSpaces_24 : decode cX9_skipSpaces 24 = .ok (.iconst 1, 1) := by decide +kernel
theorem dX9_skipSpaces_25 : decode cX9_skipSpaces 25 = .ok (.iadd, 1) := by decide +kernel
theorem dX9_skipSpaces_26 : decode cX9_skipSpaces 26 = .ok (.putfield 29, 3) := by decide +kernel
theorem dX9_skipSpaces_29 : decode cX9_skipSpaces 29 = .ok (.iinc 1 1, 3) := by decide +kernel
theorem dX9_skipSpaces_32 : decode cX9_skipSpaces 32 = .ok (.goto (-30), 3) := by decide +kernel
theorem dX9_skipSpaces_35 : decode cX9_skipSpaces 35 = .ok (.return_, 1) := by decide +kernel
theorem dX10_init_0 : decode cX10_init 0 = .ok (.aload_n 0, 1) := by decide +kernel
theorem dX10_init_1 : decode cX10_init 1 = .ok (.invokespecial 3, 3) := by decide +kernel
theorem dX10_init_4 : decode cX10_init 4 = .ok (.new 9, 3) := by decide +kernel
theorem dX10_init_7 : decode cX10_init 7 = .ok (.dup, 1) := by decide +kernel
theorem dX10_init_8 : decode cX10_init 8 = .ok (.invokespecial 11, 3) := by decide +kernel
theorem dX10_init_11 : decode cX10_init 11 = .ok (.astore_n 1, 1) := by decide +kernel
theorem dX10_init_12 : decode cX10_init 12 = .ok (.new 12, 3) := by decide +kernel
theorem dX10_init_15 : decode cX10_init 15 = .ok (.dup, 1) := by decide +kernel
theorem dX10_init_16 : decode cX10_init 16 = .ok (.aload_n 1, 1) := by decide +kernel
theorem dX10_init_17 : decode cX10_init 17 = .ok (.invokespecial 14, 3) := by decide +kernel
theorem dX10_init_20 : decode cX10_init 20 = .ok (.astore_n 2, 1) := by decide +kernel
theorem dX10_init_21 : decode cX10_init 21 = .ok (.aload_n 0, 1) := by decide +kernel
theorem dX10_init_22 : decode cX10_init 22 = .ok (.aload_n 1, 1) := by decide +kernel
theorem dX10_init_23 : decode cX10_init 23 = .ok (.putfield 17, 3) := by decide +kernel
theorem dX10_init_26 : decode cX10_init 26 = .ok (.aload_n 0, 1) := by decide +kernel
theorem dX10_init_27 : decode cX10_init 27 = .ok (.aload_n 2, 1) := by decide +kernel
theorem dX10_init_28 : decode cX10_init 28 = .ok (.putfield 21, 3) := by decide +kernel
theorem dX10_init_31 : decode cX10_init 31 = .ok (.aload_n 0, 1) := by decide +kernel
theorem dX10_init_32 : decode cX10_init 32 = .ok (.new 9, 3) := by decide +kernel
theorem dX10_init_35 : decode cX10_init 35 = .ok (.dup, 1) := by decide +kernel
theorem dX10_init_36 : decode cX10_init 36 = .ok (.invokespecial 11, 3) := by decide +kernel
theorem dX10_init_39 : decode cX10_init 39 = .ok (.putfield 25, 3) := by decide +kernel
theorem dX10_init_42 : decode cX10_init 42 = .ok (.aload_n 0, 1) := by decide +kernel
theorem dX10_init_43 : decode cX10_init 43 = .ok (.new 28, 3) := by decide +kernel
theorem dX10_init_46 : decode cX10_init 46 = .ok (.dup, 1) := by decide +kernel
theorem dX10_init_47 : decode cX10_init 47 = .ok (.invokespecial 30, 3) := by decide +kernel
theorem dX10_init_50 : decode cX10_init 50 = .ok (.putfield 31, 3) := by decide +kernel
theorem dX10_init_53 : decode cX10_init 53 = .ok (.aload_n 0, 1) := by decide +kernel
theorem dX10_init_54 : decode cX10_init 54 = .ok (.new 35, 3) := by decide +kernel
theorem dX10_init_57 : decode cX10_init 57 = .ok (.dup, 1) := by decide +kernel
theorem dX10_init_58 : decode cX10_init 58 = .ok (.aload_n 1, 1) := by decide +kernel
theorem dX10_init_59 : decode cX10_init 59 = .ok (.aload_n 2, 1) := by decide +kernel
theorem dX10_init_60 : decode cX10_init 60 = .ok (.invokespecial 37, 3) := by decide +kernel
theorem dX10_init_63 : decode cX10_init 63 = .ok (.putfield 40, 3) := by decide +kernel
theorem dX10_init_66 : decode cX10_init 66 = .ok (.aload_n 0, 1) := by decide +kernel
theorem dX10_init_67 : decode cX10_init 67 = .ok (.new 44, 3) := by decide +kernel
theorem dX10_init_70 : decode cX10_init 70 = .ok (.dup, 1) := by decide +kernel
theorem dX10_init_71 : decode cX10_init 71 = .ok (.aload_n 1, 1) := by decide +kernel
theorem dX10_init_72 : decode cX10_init 72 = .ok (.aload_n 2, 1) := by decide +kernel
theorem dX10_init_73 : decode cX10_init 73 = .ok (.invokespecial 46, 3) := by decide +kernel
theorem dX10_init_76 : decode cX10_init 76 = .ok (.putfield 47, 3) := by decide +kernel
theorem dX10_init_79 : decode cX10_init 79 = .ok (.aload_n 0, 1) := by decide +kernel
theorem dX10_init_80 : decode cX10_init 80 = .ok (.new 51, 3) := by decide +kernel
theorem dX10_init_83 : decode cX10_init 83 = .ok (.dup, 1) := by decide +kernel
theorem dX10_init_84 : decode cX10_init 84 = .ok (.aload_n 1, 1) := by decide +kernel
theorem dX10_init_85 : decode cX10_init 85 = .ok (.aload_n 2, 1) := by decide +kernel
theorem dX10_init_86 : decode cX10_init 86 = .ok (.invokespecial 53, 3) := by decide +kernel
theorem dX10_init_89 : decode cX10_init 89 = .ok (.putfield 54, 3) := by decide +kernel
theorem dX10_init_92 : decode cX10_init 92 = .ok (.aload_n 0, 1) := by decide +kernel
theorem dX10_init_93 : decode cX10_init 93 = .ok (.new 58, 3) := by decide +kernel
theorem dX10_init_96 : decode cX10_init 96 = .ok (.dup, 1) := by decide +kernel
theorem dX10_init_97 : decode cX10_init 97 = .ok (.aload_n 1, 1) := by decide +kernel
theorem dX10_init_98 : decode cX10_init 98 = .ok (.aload_n 2, 1) := by decide +kernel
theorem dX10_init_99 : decode cX10_init 99 = .ok (.invokespecial 60, 3) := by decide +kernel
theorem dX10_init_102 : decode cX10_init 102 = .ok (.putfield 61, 3) := by decide +kernel
theorem dX10_init_105 : decode cX10_init 105 = .ok (.aload_n 0, 1) := by decide +kernel
theorem dX10_init_106 : decode cX10_init 106 = .ok (.new 65, 3) := by decide +kernel
theorem dX10_init_109 : decode cX10_init 109 = .ok (.dup, 1) := by decide +kernel
theorem dX10_init_110 : decode cX10_init 110 = .ok (.invokespecial 67, 3) := by decide +kernel
theorem dX10_init_113 : decode cX10_init 113 = .ok (.putfield 68, 3) := by decide +kernel
theorem dX10_init_116 : decode cX10_init 116 = .ok (.aload_n 0, 1) := by decide +kernel
theorem dX10_init_117 : decode cX10_init 117 = .ok (.iconst (-1), 1) := by decide +kernel
theorem dX10_init_118 : decode cX10_init 118 = .ok (.putfield 72, 3) := by decide +kernel
theorem dX10_init_121 : decode cX10_init 121 = .ok (.return_, 1) := by decide +kernel
theorem dX10_space_0 : decode cX10_space 0 = .ok (.aload_n 0, 1) := by decide +kernel
theorem dX10_space_1 : decode cX10_space 1 = .ok (.getfield 25, 3) := by decide +kernel
theorem dX10_space_4 : decode cX10_space 4 = .ok (.aload_n 0, 1) := by decide +kernel
theorem dX10_space_5 : decode cX10_space 5 = .ok (.getfield 17, 3) := by decide +kernel
theorem dX10_space_8 : decode cX10_space 8 = .ok (.invokevirtual 76, 3) := by decide +kernel
theorem dX10_space_11 : decode cX10_space 11 = .ok (.aload_n 0, 1) := by decide +kernel
theorem dX10_space_12 : decode cX10_space 12 = .ok (.aload_n 0, 1) := by decide +kernel
theorem dX10_space_13 : decode cX10_space 13 = .ok (.getfield 17, 3) := by decide +kernel
theorem dX10_space_16 : decode cX10_space 16 = .ok (.iload_n 1, 1) := by decide +kernel
theorem dX10_space_17 : decode cX10_space 17 = .ok (.invokevirtual 79, 3) := by decide +kernel
theorem dX10_space_20 : decode cX10_space 20 = .ok (.invokevirtual 83, 3) := by decide +kernel
theorem dX10_space_23 : decode cX10_space 23 = .ok (.ireturn, 1) := by decide +kernel
theorem dX10_plane_0 : decode cX10_plane 0 = .ok (.aload_n 0, 1) := by decide +kernel
theorem dX10_plane_1 : decode cX10_plane 1 = .ok (.getfield 25, 3) := by decide +kernel
theorem dX10_plane_4 : decode cX10_plane 4 = .ok (.aload_n 0, 1) := by decide +kernel
theorem dX10_plane_5 : decode cX10_plane 5 = .ok (.getfield 17, 3) := by decide +kernel
theorem dX10_plane_8 : decode cX10_plane 8 = .ok (.invokevirtual 76, 3) := by decide +kernel
theorem dX10_plane_11 : decode cX10_plane 11 = .ok (.aload_n 0, 1) := by decide +kernel
theorem dX10_plane_12 : decode cX10_plane 12 = .ok (.aload_n 0, 1) := by decide +kernel
theorem dX10_plane_13 : decode cX10_plane 13 = .ok (.getfield 17, 3) := by decide +kernel
theorem dX10_plane_16 : decode cX10_plane 16 = .ok (.iload_n 1, 1) := by decide +kernel
theorem dX10_plane_17 : decode cX10_plane 17 = .ok (.iload_n 2, 1) := by decide +kernel
theorem dX10_plane_18 : decode cX10_plane 18 = .ok (.iload_n 3, 1) := by decide +kernel
theorem dX10_plane_19 : decode cX10_plane 19 = .ok (.iload 4, 2) := by decide +kernel
theorem dX10_plane_21 : decode cX10_plane 21 = .ok (.invokevirtual 86, 3) := by decide +kernel
theorem dX10_plane_24 : decode cX10_plane 24 = .ok (.invokevirtual 83, 3) := by decide +kernel
theorem dX10_plane_27 : decode cX10_plane 27 = .ok (.ireturn, 1) := by decide +kernel
theorem dX10_turns_0 : decode cX10_turns 0 = .ok (.aload_n 0, 1) := by decide +kernel
theorem dX10_turns_1 : decode cX10_turns 1 = .ok (.getfield 25, 3) := by decide +kernel
theorem dX10_turns_4 : decode cX10_turns 4 = .ok (.aload_n 0, 1) := by decide +kernel
theorem dX10_turns_5 : decode cX10_turns 5 = .ok (.getfield 17, 3) := by decide +kernel
theorem dX10_turns_8 : decode cX10_turns 8 = .ok (.invokevirtual 76, 3) := by decide +kernel
theorem dX10_turns_11 : decode cX10_turns 11 = .ok (.aload_n 0, 1) := by decide +kernel
theorem dX10_turns_12 : decode cX10_turns 12 = .ok (.aload_n 0, 1) := by decide +kernel
theorem dX10_turns_13 : decode cX10_turns 13 = .ok (.getfield 17, 3) := by decide +kernel
theorem dX10_turns_16 : decode cX10_turns 16 = .ok (.iload_n 1, 1) := by decide +kernel
theorem dX10_turns_17 : decode cX10_turns 17 = .ok (.invokevirtual 90, 3) := by decide +kernel
theorem dX10_turns_20 : decode cX10_turns 20 = .ok (.invokevirtual 83, 3) := by decide +kernel
theorem dX10_turns_23 : decode cX10_turns 23 = .ok (.istore_n 2, 1) := by decide +kernel
theorem dX10_turns_24 : decode cX10_turns 24 = .ok (.iload_n 2, 1) := by decide +kernel
theorem dX10_turns_25 : decode cX10_turns 25 = .ok (.ifCond .ge 7, 3) := by decide +kernel
theorem dX10_turns_28 : decode cX10_turns 28 = .ok (.iload_n 2, 1) := by decide +kernel
theorem dX10_turns_29 : decode cX10_turns 29 = .ok (.goto 10, 3) := by decide +kernel
theorem dX10_turns_32 : decode cX10_turns 32 = .ok (.aload_n 0, 1) := by decide +kernel
theorem dX10_turns_33 : decode cX10_turns 33 = .ok (.getfield 21, 3) := by decide +kernel
theorem dX10_turns_36 : decode cX10_turns 36 = .ok (.invokevirtual 93, 3) := by decide +kernel
theorem dX10_turns_39 : decode cX10_turns 39 = .ok (.ireturn, 1) := by decide +kernel
theorem dX10_drops_0 : decode cX10_drops 0 = .ok (.aload_n 0, 1) := by decide +kernel
theorem dX10_drops_1 : decode cX10_drops 1 = .ok (.getfield 25, 3) := by decide +kernel
theorem dX10_drops_4 : decode cX10_drops 4 = .ok (.aload_n 0, 1) := by decide +kernel
theorem dX10_drops_5 : decode cX10_drops 5 = .ok (.getfield 17, 3) := by decide +kernel
theorem dX10_drops_8 : decode cX10_drops 8 = .ok (.invokevirtual 76, 3) := by decide +kernel
theorem dX10_drops_11 : decode cX10_drops 11 = .ok (.aload_n 0, 1) := by decide +kernel
theorem dX10_drops_12 : decode cX10_drops 12 = .ok (.aload_n 0, 1) := by decide +kernel
theorem dX10_drops_13 : decode cX10_drops 13 = .ok (.getfield 17, 3) := by decide +kernel
theorem dX10_drops_16 : decode cX10_drops 16 = .ok (.iload_n 1, 1) := by decide +kernel
theorem dX10_drops_17 : decode cX10_drops 17 = .ok (.invokevirtual 97, 3) := by decide +kernel
theorem dX10_drops_20 : decode cX10_drops 20 = .ok (.invokevirtual 83, 3) := by decide +kernel
theorem dX10_drops_23 : decode cX10_drops 23 = .ok (.ireturn, 1) := by decide +kernel
theorem dX10_swaps_0 : decode cX10_swaps 0 = .ok (.aload_n 0, 1) := by decide +kernel
theorem dX10_swaps_1 : decode cX10_swaps 1 = .ok (.getfield 25, 3) := by decide +kernel
theorem dX10_swaps_4 : decode cX10_swaps 4 = .ok (.aload_n 0, 1) := by decide +kernel
theorem dX10_swaps_5 : decode cX10_swaps 5 = .ok (.getfield 17, 3) := by decide +kernel
theorem dX10_swaps_8 : decode cX10_swaps 8 = .ok (.invokevirtual 76, 3) := by decide +kernel
theorem dX10_swaps_11 : decode cX10_swaps 11 = .ok (.aload_n 0, 1) := by decide +kernel
theorem dX10_swaps_12 : decode cX10_swaps 12 = .ok (.aload_n 0, 1) := by decide +kernel
theorem dX10_swaps_13 : decode cX10_swaps 13 = .ok (.getfield 17, 3) := by decide +kernel
theorem dX10_swaps_16 : decode cX10_swaps 16 = .ok (.iload_n 1, 1) := by decide +kernel
theorem dX10_swaps_17 : decode cX10_swaps 17 = .ok (.iload_n 2, 1) := by decide +kernel
theorem dX10_swaps_18 : decode cX10_swaps 18 = .ok (.invokevirtual 100, 3) := by decide +kernel
theorem dX10_swaps_21 : decode cX10_swaps 21 = .ok (.invokevirtual 83, 3) := by decide +kernel
theorem dX10_swaps_24 : decode cX10_swaps 24 = .ok (.istore_n 3, 1) := by decide +kernel
theorem dX10_swaps_25 : decode cX10_swaps 25 = .ok (.iload_n 3, 1) := by decide +kernel
theorem dX10_swaps_26 : decode cX10_swaps 26 = .ok (.ifCond .ge 7, 3) := by decide +kernel
theorem dX10_swaps_29 : decode cX10_swaps 29 = .ok (.iload_n 3, 1) := by decide +kernel
theorem dX10_swaps_30 : decode cX10_swaps 30 = .ok (.goto 17, 3) := by decide +kernel
theorem dX10_swaps_33 : decode cX10_swaps 33 = .ok (.aload_n 0, 1) := by decide +kernel
theorem dX10_swaps_34 : decode cX10_swaps 34 = .ok (.getfield 21, 3) := by decide +kernel
theorem dX10_swaps_37 : decode cX10_swaps 37 = .ok (.aload_n 0, 1) := by decide +kernel
theorem dX10_swaps_38 : decode cX10_swaps 38 = .ok (.getfield 17, 3) := by decide +kernel
theorem dX10_swaps_41 : decode cX10_swaps 41 = .ok (.invokevirtual 104, 3) := by decide +kernel
theorem dX10_swaps_44 : decode cX10_swaps 44 = .ok (.invokevirtual 107, 3) := by decide +kernel
theorem dX10_swaps_47 : decode cX10_swaps 47 = .ok (.ireturn, 1) := by decide +kernel
theorem dX10_makes_0 : decode cX10_makes 0 = .ok (.aload_n 0, 1) := by decide +kernel
theorem dX10_makes_1 : decode cX10_makes 1 = .ok (.getfield 25, 3) := by decide +kernel
theorem dX10_makes_4 : decode cX10_makes 4 = .ok (.aload_n 0, 1) := by decide +kernel
theorem dX10_makes_5 : decode cX10_makes 5 = .ok (.getfield 17, 3) := by decide +kernel
theorem dX10_makes_8 : decode cX10_makes 8 = .ok (.invokevirtual 76, 3) := by decide +kernel
theorem dX10_makes_11 : decode cX10_makes 11 = .ok (.aload_n 0, 1) := by decide +kernel
theorem dX10_makes_12 : decode cX10_makes 12 = .ok (.aload_n 0, 1) := by decide +kernel
theorem dX10_makes_13 : decode cX10_makes 13 = .ok (.getfield 17, 3) := by decide +kernel
theorem dX10_makes_16 : decode cX10_makes 16 = .ok (.iload_n 1, 1) := by decide +kernel
theorem dX10_makes_17 : decode cX10_makes 17 = .ok (.invokevirtual 110, 3) := by decide +kernel
theorem dX10_makes_20 : decode cX10_makes 20 = .ok (.invokevirtual 83, 3) := by decide +kernel
theorem dX10_makes_23 : decode cX10_makes 23 = .ok (.ireturn, 1) := by decide +kernel
theorem dX10_of_0 : decode cX10_of 0 = .ok (.aload_n 0, 1) := by decide +kernel
theorem dX10_of_1 : decode cX10_of 1 = .ok (.getfield 17, 3) := by decide +kernel
theorem dX10_of_4 : decode cX10_of 4 = .ok (.iload_n 1, 1) := by decide +kernel
theorem dX10_of_5 : decode cX10_of 5 = .ok (.invokevirtual 113, 3) := by decide +kernel
theorem dX10_of_8 : decode cX10_of 8 = .ok (.ifCond .eq 18, 3) := by decide +kernel
theorem dX10_of_11 : decode cX10_of 11 = .ok (.iload_n 2, 1) := by decide +kernel
theorem dX10_of_12 : decode cX10_of 12 = .ok (.ifCond .lt 14, 3) := by decide +kernel
theorem dX10_of_15 : decode cX10_of 15 = .ok (.iload_n 2, 1) := by decide +kernel
theorem dX10_of_16 : decode cX10_of 16 = .ok (.aload_n 0, 1) := by decide +kernel
theorem dX10_of_17 : decode cX10_of 17 = .ok (.getfield 17, 3) := by decide +kernel
theorem dX10_of_20 : decode cX10_of 20 = .ok (.getfield 117, 3) := by decide +kernel
theorem dX10_of_23 : decode cX10_of 23 = .ok (.if_icmp .lt 10, 3) := by decide +kernel
theorem dX10_of_26 : decode cX10_of 26 = .ok (.aload_n 0, 1) := by decide +kernel
theorem dX10_of_27 : decode cX10_of 27 = .ok (.bipush (-2), 2) := by decide +kernel
theorem dX10_of_29 : decode cX10_of 29 = .ok (.invokevirtual 120, 3) := by decide +kernel
theorem dX10_of_32 : decode cX10_of 32 = .ok (.ireturn, 1) := by decide +kernel
theorem dX10_of_33 : decode cX10_of 33 = .ok (.aload_n 0, 1) := by decide +kernel
theorem dX10_of_34 : decode cX10_of 34 = .ok (.getfield 17, 3) := by decide +kernel
theorem dX10_of_37 : decode cX10_of 37 = .ok (.iload_n 1, 1) := by decide +kernel
theorem dX10_of_38 : decode cX10_of 38 = .ok (.iload_n 2, 1) := by decide +kernel
theorem dX10_of_39 : decode cX10_of 39 = .ok (.invokevirtual 123, 3) := by decide +kernel
theorem dX10_of_42 : decode cX10_of 42 = .ok (.bipush 10, 2) := by decide +kernel
theorem dX10_of_44 : decode cX10_of 44 = .ok (.iadd, 1) := by decide +kernel
theorem dX10_of_45 : decode cX10_of 45 = .ok (.ireturn, 1) := by decide +kernel
