theorem dX11_findFactors_316 : decode cX11_findFactors 316 = .ok (.dup2, 1) := by decide +kernel
theorem dX11_findFactors_317 : decode cX11_findFactors 317 = .ok (.laload, 1) := by decide +kernel
theorem dX11_findFactors_318 : decode cX11_findFactors 318 = .ok (.lload 5, 2) := by decide +kernel
theorem dX11_findFactors_320 : decode cX11_findFactors 320 = .ok (.ldiv, 1) := by decide +kernel
theorem dX11_findFactors_321 : decode cX11_findFactors 321 = .ok (.lastore, 1) := by decide +kernel
theorem dX11_findFactors_322 : decode cX11_findFactors 322 = .ok (.iinc 7 1, 3) := by decide +kernel
theorem dX11_findFactors_325 : decode cX11_findFactors 325 = .ok (.goto (-22), 3) := by decide +kernel
theorem dX11_findFactors_328 : decode cX11_findFactors 328 = .ok (.return_, 1) := by decide +kernel
theorem dX11_aboveOf_0 : decode cX11_aboveOf 0 = .ok (.aload_n 0, 1) := by decide +kernel
theorem dX11_aboveOf_1 : decode cX11_aboveOf 1 = .ok (.iload_n 1, 1) := by decide +kernel
theorem dX11_aboveOf_2 : decode cX11_aboveOf 2 = .ok (.invokevirtual 142, 3) := by decide +kernel
theorem dX11_aboveOf_5 : decode cX11_aboveOf 5 = .ok (.iconst 0, 1) := by decide +kernel
theorem dX11_aboveOf_6 : decode cX11_aboveOf 6 = .ok (.istore_n 2, 1) := by decide +kernel
theorem dX11_aboveOf_7 : decode cX11_aboveOf 7 = .ok (.iconst 0, 1) := by decide +kernel
theorem dX11_aboveOf_8 : decode cX11_aboveOf 8 = .ok (.istore_n 3, 1) := by decide +kernel
theorem dX11_aboveOf_9 : decode cX11_aboveOf 9 = .ok (.iload_n 3, 1) := by decide +kernel
theorem dX11_aboveOf_10 : decode cX11_aboveOf 10 = .ok (.bipush 9, 2) := by decide +kernel
theorem dX11_aboveOf_12 : decode cX11_aboveOf 12 = .ok (.if_icmp .ge 30, 3) := by decide +kernel
theorem dX11_aboveOf_15 : decode cX11_aboveOf 15 = .ok (.iload_n 2, 1) := by decide +kernel
theorem dX11_aboveOf_16 : decode cX11_aboveOf 16 = .ok (.aload_n 0, 1) := by decide +kernel
theorem dX11_aboveOf_17 : decode cX11_aboveOf 17 = .ok (.getfield 42, 3) := by decide +kernel
theorem dX11_aboveOf_20 : decode cX11_aboveOf 20 = .ok (.iload_n 3, 1) := by decide +kernel
theorem dX11_aboveOf_21 : decode cX11_aboveOf 21 = .ok (.laload, 1) := by decide +kernel
theorem dX11_aboveOf_22 : decode cX11_aboveOf 22 = .ok (.lconst 0, 1) := by decide +kernel
theorem dX11_aboveOf_23 : decode cX11_aboveOf 23 = .ok (.lcmp, 1) := by decide +kernel
theorem dX11_aboveOf_24 : decode cX11_aboveOf 24 = .ok (.ifCond .le 9, 3) := by decide +kernel
theorem dX11_aboveOf_27 : decode cX11_aboveOf 27 = .ok (.iconst 1, 1) := by decide +kernel
theorem dX11_aboveOf_28 : decode cX11_aboveOf 28 = .ok (.iload_n 3, 1) := by decide +kernel
theorem dX11_aboveOf_29 : decode cX11_aboveOf 29 = .ok (.ishl, 1) := by decide +kernel
theorem dX11_aboveOf_30 : decode cX11_aboveOf 30 = .ok (.goto 4, 3) := by decide +kernel
theorem dX11_aboveOf_33 : decode cX11_aboveOf 33 = .ok (.iconst 0, 1) := by decide +kernel
theorem dX11_aboveOf_34 : decode cX11_aboveOf 34 = .ok (.ior, 1) := by decide +kernel
theorem dX11_aboveOf_35 : decode cX11_aboveOf 35 = .ok (.istore_n 2, 1) := by decide +kernel
theorem dX11_aboveOf_36 : decode cX11_aboveOf 36 = .ok (.iinc 3 1, 3) := by decide +kernel
theorem dX11_aboveOf_39 : decode cX11_aboveOf 39 = .ok (.goto (-30), 3) := by decide +kernel
theorem dX11_aboveOf_42 : decode cX11_aboveOf 42 = .ok (.iload_n 2, 1) := by decide +kernel
theorem dX11_aboveOf_43 : decode cX11_aboveOf 43 = .ok (.ireturn, 1) := by decide +kernel
theorem dX11_doSpace_0 : decode cX11_doSpace 0 = .ok (.iload_n 1, 1) := by decide +kernel
theorem dX11_doSpace_1 : decode cX11_doSpace 1 = .ok (.iconst 2, 1) := by decide +kernel
theorem dX11_doSpace_2 : decode cX11_doSpace 2 = .ok (.iconst 4, 1) := by decide +kernel
theorem dX11_doSpace_3 : decode cX11_doSpace 3 = .ok (.invokestatic 113, 3) := by decide +kernel
theorem dX11_doSpace_6 : decode cX11_doSpace 6 = .ok (.ifCond .ne 6, 3) := by decide +kernel
theorem dX11_doSpace_9 : decode cX11_doSpace 9 = .ok (.bipush (-2), 2) := by decide +kernel
theorem dX11_doSpace_11 : decode cX11_doSpace 11 = .ok (.ireturn, 1) := by decide +kernel
theorem dX11_doSpace_12 : decode cX11_doSpace 12 = .ok (.aload_n 0, 1) := by decide +kernel
theorem dX11_doSpace_13 : decode cX11_doSpace 13 = .ok (.getfield 7, 3) := by decide +kernel
theorem dX11_doSpace_16 : decode cX11_doSpace 16 = .ok (.bipush 36, 2) := by decide +kernel
theorem dX11_doSpace_18 : decode cX11_doSpace 18 = .ok (.iload_n 1, 1) := by decide +kernel
theorem dX11_doSpace_19 : decode cX11_doSpace 19 = .ok (.iastore, 1) := by decide +kernel
theorem dX11_doSpace_20 : decode cX11_doSpace 20 = .ok (.aload_n 0, 1) := by decide +kernel
theorem dX11_doSpace_21 : decode cX11_doSpace 21 = .ok (.getfield 7, 3) := by decide +kernel
theorem dX11_doSpace_24 : decode cX11_doSpace 24 = .ok (.bipush 37, 2) := by decide +kernel
theorem dX11_doSpace_26 : decode cX11_doSpace 26 = .ok (.iconst 0, 1) := by decide +kernel
theorem dX11_doSpace_27 : decode cX11_doSpace 27 = .ok (.iastore, 1) := by decide +kernel
theorem dX11_doSpace_28 : decode cX11_doSpace 28 = .ok (.iload_n 1, 1) := by decide +kernel
theorem dX11_doSpace_29 : decode cX11_doSpace 29 = .ok (.ireturn, 1) := by decide +kernel
theorem dX11_isThere_0 : decode cX11_isThere 0 = .ok (.iconst 1, 1) := by decide +kernel
theorem dX11_isThere_1 : decode cX11_isThere 1 = .ok (.istore_n 2, 1) := by decide +kernel
theorem dX11_isThere_2 : decode cX11_isThere 2 = .ok (.iconst 0, 1) := by decide +kernel
theorem dX11_isThere_3 : decode cX11_isThere 3 = .ok (.istore_n 3, 1) := by decide +kernel
theorem dX11_isThere_4 : decode cX11_isThere 4 = .ok (.iload_n 3, 1) := by decide +kernel
theorem dX11_isThere_5 : decode cX11_isThere 5 = .ok (.iconst 4, 1) := by decide +kernel
theorem dX11_isThere_6 : decode cX11_isThere 6 = .ok (.if_icmp .ge 73, 3) := by decide +kernel
theorem dX11_isThere_9 : decode cX11_isThere 9 = .ok (.iconst 0, 1) := by decide +kernel
theorem dX11_isThere_10 : decode cX11_isThere 10 = .ok (.istore 4, 2) := by decide +kernel
theorem dX11_isThere_12 : decode cX11_isThere 12 = .ok (.iload 4, 2) := by decide +kernel
theorem dX11_isThere_14 : decode cX11_isThere 14 = .ok (.iload_n 3, 1) := by decide +kernel
theorem dX11_isThere_15 : decode cX11_isThere 15 = .ok (.if_icmp .ge 58, 3) := by decide +kernel
theorem dX11_isThere_18 : decode cX11_isThere 18 = .ok (.iload_n 2, 1) := by decide +kernel
theorem dX11_isThere_19 : decode cX11_isThere 19 = .ok (.ifCond .eq 46, 3) := by decide +kernel
theorem dX11_isThere_22 : decode cX11_isThere 22 = .ok (.aload_n 0, 1) := by decide +kernel
theorem dX11_isThere_23 : decode cX11_isThere 23 = .ok (.getfield 7, 3) := by decide +kernel
theorem dX11_isThere_26 : decode cX11_isThere 26 = .ok (.iconst 4, 1) := by decide +kernel
theorem dX11_isThere_27 : decode cX11_isThere 27 = .ok (.iload_n 1, 1) := by decide +kernel
theorem dX11_isThere_28 : decode cX11_isThere 28 = .ok (.imul, 1) := by decide +kernel
theorem dX11_isThere_29 : decode cX11_isThere 29 = .ok (.iload_n 3, 1) := by decide +kernel
theorem dX11_isThere_30 : decode cX11_isThere 30 = .ok (.iadd, 1) := by decide +kernel
theorem dX11_isThere_31 : decode cX11_isThere 31 = .ok (.iaload, 1) := by decide +kernel
theorem dX11_isThere_32 : decode cX11_isThere 32 = .ok (.aload_n 0, 1) := by decide +kernel
theorem dX11_isThere_33 : decode cX11_isThere 33 = .ok (.getfield 51, 3) := by decide +kernel
theorem dX11_isThere_36 : decode cX11_isThere 36 = .ok (.iload 4, 2) := by decide +kernel
theorem dX11_isThere_38 : decode cX11_isThere 38 = .ok (.iaload, 1) := by decide +kernel
theorem dX11_isThere_39 : decode cX11_isThere 39 = .ok (.imul, 1) := by decide +kernel
theorem dX11_isThere_40 : decode cX11_isThere 40 = .ok (.aload_n 0, 1) := by decide +kernel
theorem dX11_isThere_41 : decode cX11_isThere 41 = .ok (.getfield 7, 3) := by decide +kernel
theorem dX11_isThere_44 : decode cX11_isThere 44 = .ok (.iconst 4, 1) := by decide +kernel
theorem dX11_isThere_45 : decode cX11_isThere 45 = .ok (.iload_n 1, 1) := by decide +kernel
theorem dX11_isThere_46 : decode cX11_isThere 46 = .ok (.imul, 1) := by decide +kernel
theorem dX11_isThere_47 : decode cX11_isThere 47 = .ok (.iload 4, 2) := by decide +kernel
theorem dX11_isThere_49 : decode cX11_isThere 49 = .ok (.iadd, 1) := by decide +kernel
theorem dX11_isThere_50 : decode cX11_isThere 50 = .ok (.iaload, 1) := by decide +kernel
theorem dX11_isThere_51 : decode cX11_isThere 51 = .ok (.aload_n 0, 1) := by decide +kernel
theorem dX11_isThere_52 : decode cX11_isThere 52 = .ok (.getfield 51, 3) := by decide +kernel
theorem dX11_isThere_55 : decode cX11_isThere 55 = .ok (.iload_n 3, 1) := by decide +kernel
theorem dX11_isThere_56 : decode cX11_isThere 56 = .ok (.iaload, 1) := by decide +kernel
theorem dX11_isThere_57 : decode cX11_isThere 57 = .ok (.imul, 1) := by decide +kernel
theorem dX11_isThere_58 : decode cX11_isThere 58 = .ok (.if_icmp .ne 7, 3) := by decide +kernel
theorem dX11_isThere_61 : decode cX11_isThere 61 = .ok (.iconst 1, 1) := by decide +kernel
theorem dX11_isThere_62 : decode cX11_isThere 62 = .ok (.goto 4, 3) := by decide +kernel
theorem dX11_isThere_65 : decode cX11_isThere 65 = .ok (.iconst 0, 1) := by decide +kernel
theorem dX11_isThere_66 : decode cX11_isThere 66 = .ok (.istore_n 2, 1) := by decide +kernel
theorem dX11_isThere_67 : decode cX11_isThere 67 = .ok (.iinc 4 1, 3) := by decide +kernel
theorem dX11_isThere_70 : decode cX11_isThere 70 = .ok (.goto (-58), 3) := by decide +kernel
theorem dX11_isThere_73 : decode cX11_isThere 73 = .ok (.iinc 3 1, 3) := by decide +kernel
theorem dX11_isThere_76 : decode cX11_isThere 76 = .ok (.goto (-72), 3) := by decide +kernel
theorem dX11_isThere_79 : decode cX11_isThere 79 = .ok (.iload_n 2, 1) := by decide +kernel
theorem dX11_isThere_80 : decode cX11_isThere 80 = .ok (.ireturn, 1) := by decide +kernel
theorem dX11_doPlane_0 : decode cX11_doPlane 0 = .ok (.aload_n 0, 1) := by decide +kernel
theorem dX11_doPlane_1 : decode cX11_doPlane 1 = .ok (.getfield 51, 3) := by decide +kernel
theorem dX11_doPlane_4 : decode cX11_doPlane 4 = .ok (.iconst 0, 1) := by decide +kernel
theorem dX11_doPlane_5 : decode cX11_doPlane 5 = .ok (.iload_n 1, 1) := by decide +kernel
theorem dX11_doPlane_6 : decode cX11_doPlane 6 = .ok (.iastore, 1) := by decide +kernel
theorem dX11_doPlane_7 : decode cX11_doPlane 7 = .ok (.aload_n 0, 1) := by decide +kernel
theorem dX11_doPlane_8 : decode cX11_doPlane 8 = .ok (.getfield 51, 3) := by decide +kernel
theorem dX11_doPlane_11 : decode cX11_doPlane 11 = .ok (.iconst 1, 1) := by decide +kernel
theorem dX11_doPlane_12 : decode cX11_doPlane 12 = .ok (.iload_n 2, 1) := by decide +kernel
theorem dX11_doPlane_13 : decode cX11_doPlane 13 = .ok (.iastore, 1) := by decide +kernel
theorem dX11_doPlane_14 : decode cX11_doPlane 14 = .ok (.aload_n 0, 1) := by decide +kernel
theorem dX11_doPlane_15 : decode cX11_doPlane 15 = .ok (.getfield 51, 3) := by decide +kernel
theorem dX11_doPlane_18 : decode cX11_doPlane 18 = .ok (.iconst 2, 1) := by decide +kernel
theorem dX11_doPlane_19 : decode cX11_doPlane 19 = .ok (.iload_n 3, 1) := by decide +kernel
theorem dX11_doPlane_20 : decode cX11_doPlane 20 = .ok (.iastore, 1) := by decide +kernel
theorem dX11_doPlane_21 : decode cX11_doPlane 21 = .ok (.aload_n 0, 1) := by decide +kernel
theorem dX11_doPlane_22 : decode cX11_doPlane 22 = .ok (.getfield 51, 3) := by decide +kernel
theorem dX11_doPlane_25 : decode cX11_doPlane 25 = .ok (.iconst 3, 1) := by decide +kernel
theorem dX11_doPlane_26 : decode cX11_doPlane 26 = .ok (.iload 4, 2) := by decide +kernel
theorem dX11_doPlane_28 : decode cX11_doPlane 28 = .ok (.iastore, 1) := by decide +kernel
theorem dX11_doPlane_29 : decode cX11_doPlane 29 = .ok (.iconst 0, 1) := by decide +kernel
theorem dX11_doPlane_30 : decode cX11_doPlane 30 = .ok (.istore 5, 2) := by decide +kernel
theorem dX11_doPlane_32 : decode cX11_doPlane 32 = .ok (.iconst 1, 1) := by decide +kernel
theorem dX11_doPlane_33 : decode cX11_doPlane 33 = .ok (.istore 6, 2) := by decide +kernel
theorem dX11_doPlane_35 : decode cX11_doPlane 35 = .ok (.iconst 0, 1) := by decide +kernel
theorem dX11_doPlane_36 : decode cX11_doPlane 36 = .ok (.istore 7, 2) := by decide +kernel
theorem dX11_doPlane_38 : decode cX11_doPlane 38 = .ok (.iload 7, 2) := by decide +kernel
theorem dX11_doPlane_40 : decode cX11_doPlane 40 = .ok (.iconst 4, 1) := by decide +kernel
theorem dX11_doPlane_41 : decode cX11_doPlane 41 = .ok (.if_icmp .ge 81, 3) := by decide +kernel
theorem dX11_doPlane_44 : decode cX11_doPlane 44 = .ok (.iload 6, 2) := by decide +kernel
theorem dX11_doPlane_46 : decode cX11_doPlane 46 = .ok (.ifCond .eq 45, 3) := by decide +kernel
theorem dX11_doPlane_49 : decode cX11_doPlane 49 = .ok (.aload_n 0, 1) := by decide +kernel
theorem dX11_doPlane_50 : decode cX11_doPlane 50 = .ok (.getfield 51, 3) := by decide +kernel
theorem dX11_doPlane_53 : decode cX11_doPlane 53 = .ok (.iload 7, 2) := by decide +kernel
theorem dX11_doPlane_55 : decode cX11_doPlane 55 = .ok (.iaload, 1) := by decide +kernel
theorem dX11_doPlane_56 : decode cX11_doPlane 56 = .ok (.bipush (-3), 2) := by decide +kernel
theorem dX11_doPlane_58 : decode cX11_doPlane 58 = .ok (.iconst 3, 1) := by decide +kernel
theorem dX11_doPlane_59 : decode cX11_doPlane 59 = .ok (.invokestatic 113, 3) := by decide +kernel
theorem dX11_doPlane_62 : decode cX11_doPlane 62 = .ok (.ifCond .eq 29, 3) := by decide +kernel
theorem dX11_doPlane_65 : decode cX11_doPlane 65 = .ok (.iload 7, 2) := by decide +kernel
theorem dX11_doPlane_67 : decode cX11_doPlane 67 = .ok (.aload_n 0, 1) := by decide +kernel
theorem dX11_doPlane_68 : decode cX11_doPlane 68 = .ok (.getfield 7, 3) := by decide +kernel
theorem dX11_doPlane_71 : decode cX11_doPlane 71 = .ok (.bipush 36, 2) := by decide +kernel
theorem dX11_doPlane_73 : decode cX11_doPlane 73 = .ok (.iaload, 1) := by decide +kernel
theorem dX11_doPlane_74 : decode cX11_doPlane 74 = .ok (.if_icmp .lt 13, 3) := by decide +kernel
theorem dX11_doPlane_77 : decode cX11_doPlane 77 = .ok (.aload_n 0, 1) := by decide +kernel
theorem dX11_doPlane_78 : decode cX11_doPlane 78 = .ok (.getfield 51, 3) := by decide +kernel
theorem dX11_doPlane_81 : decode cX11_doPlane 81 = .ok (.iload 7, 2) := by decide +kernel
theorem dX11_doPlane_83 : decode cX11_doPlane 83 = .ok (.iaload, 1) := by decide +kernel
theorem dX11_doPlane_84 : decode cX11_doPlane 84 = .ok (.ifCond .ne 7, 3) := by decide +kernel
theorem dX11_doPlane_87 : decode cX11_doPlane 87 = .ok (.iconst 1, 1) := by decide +kernel
theorem dX11_doPlane_88 : decode cX11_doPlane 88 = .ok (.goto 4, 3) := by decide +kernel
theorem dX11_doPlane_91 : decode cX11_doPlane 91 = .ok (.iconst 0, 1) := by decide +kernel
theorem dX11_doPlane_92 : decode cX11_doPlane 92 = .ok (.istore 6, 2) := by decide +kernel
theorem dX11_doPlane_94 : decode cX11_doPlane 94 = .ok (.iload 5, 2) := by decide +kernel
theorem dX11_doPlane_96 : decode cX11_doPlane 96 = .ok (.ifCond .ne 13, 3) := by decide +kernel
theorem dX11_doPlane_99 : decode cX11_doPlane 99 = .ok (.aload_n 0, 1) := by decide +kernel
theorem dX11_doPlane_100 : decode cX11_doPlane 100 = .ok (.getfield 51, 3) := by decide +kernel
theorem dX11_doPlane_103 : decode cX11_doPlane 103 = .ok (.iload 7, 2) := by decide +kernel
theorem dX11_doPlane_105 : decode cX11_doPlane 105 = .ok (.iaload, 1) := by decide +kernel
theorem dX11_doPlane_106 : decode cX11_doPlane 106 = .ok (.ifCond .eq 7, 3) := by decide +kernel
theorem dX11_doPlane_109 : decode cX11_doPlane 109 = .ok (.iconst 1, 1) := by decide +kernel
theorem dX11_doPlane_110 : decode cX11_doPlane 110 = .ok (.goto 4, 3) := by decide +kernel
theorem dX11_doPlane_113 : decode cX11_doPlane 113 = .ok (.iconst 0, 1) := by decide +kernel
theorem dX11_doPlane_114 : decode cX11_doPlane 114 = .ok (.istore 5, 2) := by decide +kernel
theorem dX11_doPlane_116 : decode cX11_doPlane 116 = .ok (.iinc 7 1, 3) := by decide +kernel
theorem dX11_doPlane_119 : decode cX11_doPlane 119 = .ok (.goto (-81), 3) := by decide +kernel
theorem dX11_doPlane_122 : decode cX11_doPlane 122 = .ok (.iload 6, 2) := by decide +kernel
theorem dX11_doPlane_124 : decode cX11_doPlane 124 = .ok (.ifCond .eq 8, 3) := by decide +kernel
theorem dX11_doPlane_127 : decode cX11_doPlane 127 = .ok (.iload 5, 2) := by decide +kernel
theorem dX11_doPlane_129 : decode cX11_doPlane 129 = .ok (.ifCond .ne 6, 3) := by decide +kernel
theorem dX11_doPlane_132 : decode cX11_doPlane 132 = .ok (.bipush (-2), 2) := by decide +kernel
theorem dX11_doPlane_134 : decode cX11_doPlane 134 = .ok (.ireturn, 1) := by decide +kernel
theorem dX11_doPlane_135 : decode cX11_doPlane 135 = .ok (.iconst 0, 1) := by decide +kernel
theorem dX11_doPlane_136 : decode cX11_doPlane 136 = .ok (.istore 7, 2) := by decide +kernel
theorem dX11_doPlane_138 : decode cX11_doPlane 138 = .ok (.iload 7, 2) := by decide +kernel
theorem dX11_doPlane_140 : decode cX11_doPlane 140 = .ok (.aload_n 0, 1) := by decide +kernel
theorem dX11_doPlane_141 : decode cX11_doPlane 141 = .ok (.getfield 7, 3) := by decide +kernel
theorem dX11_doPlane_144 : decode cX11_doPlane 144 = .ok (.bipush 37, 2) := by decide +kernel
theorem dX11_doPlane_146 : decode cX11_doPlane 146 = .ok (.iaload, 1) := by decide +kernel
theorem dX11_doPlane_147 : decode cX11_doPlane 147 = .ok (.if_icmp .ge 21, 3) := by decide +kernel
theorem dX11_doPlane_150 : decode cX11_doPlane 150 = .ok (.aload_n 0, 1) := by decide +kernel
theorem dX11_doPlane_151 : decode cX11_doPlane 151 = .ok (.iload 7, 2) := by decide +kernel
theorem dX11_doPlane_153 : decode cX11_doPlane 153 = .ok (.invokevirtual 145, 3) := by decide +kernel
theorem dX11_doPlane_156 : decode cX11_doPlane 156 = .ok (.ifCond .eq 6, 3) := by decide +kernel
theorem dX11_doPlane_159 : decode cX11_doPlane 159 = .ok (.bipush (-3), 2) := by decide +kernel
theorem dX11_doPlane_161 : decode cX11_doPlane 161 = .ok (.ireturn, 1) := by decide +kernel
theorem dX11_doPlane_162 : decode cX11_doPlane 162 = .ok (.iinc 7 1, 3) := by decide +kernel
theorem dX11_doPlane_165 : decode cX11_doPlane 165 = .ok (.goto (-27), 3) := by decide +kernel
theorem dX11_doPlane_168 : decode cX11_doPlane 168 = .ok (.aload_n 0, 1) := by decide +kernel
theorem dX11_doPlane_169 : decode cX11_doPlane 169 = .ok (.getfield 7, 3) := by decide +kernel
theorem dX11_doPlane_172 : decode cX11_doPlane 172 = .ok (.bipush 37, 2) := by decide +kernel
theorem dX11_doPlane_174 : decode cX11_doPlane 174 = .ok (.iaload, 1) := by decide +kernel
theorem dX11_doPlane_175 : decode cX11_doPlane 175 = .ok (.bipush 9, 2) := by decide +kernel
theorem dX11_doPlane_177 : decode cX11_doPlane 177 = .ok (.if_icmp .ne 6, 3) := by decide +kernel
theorem dX11_doPlane_180 : decode cX11_doPlane 180 = .ok (.bipush (-4), 2) := by decide +kernel
theorem dX11_doPlane_182 : decode cX11_doPlane 182 = .ok (.ireturn, 1) := by decide +kernel
theorem dX11_doPlane_183 : decode cX11_doPlane 183 = .ok (.aload_n 0, 1) := by decide +kernel
theorem dX11_doPlane_184 : decode cX11_doPlane 184 = .ok (.invokevirtual 148, 3) := by decide +kernel
theorem dX11_doPlane_187 : decode cX11_doPlane 187 = .ok (.aload_n 0, 1) := by decide +kernel
theorem dX11_doPlane_188 : decode cX11_doPlane 188 = .ok (.getfield 7, 3) := by decide +kernel
theorem dX11_doPlane_191 : decode cX11_doPlane 191 = .ok (.bipush 37, 2) := by decide +kernel
theorem dX11_doPlane_193 : decode cX11_doPlane 193 = .ok (.iaload, 1) := by decide +kernel
theorem dX11_doPlane_194 : decode cX11_doPlane 194 = .ok (.iconst 1, 1) := by decide +kernel
theorem dX11_doPlane_195 : decode cX11_doPlane 195 = .ok (.isub, 1) := by decide +kernel
theorem dX11_doPlane_196 : decode cX11_doPlane 196 = .ok (.ireturn, 1) := by decide +kernel
theorem dX11_addsTold_0 : decode cX11_addsTold 0 = .ok (.aload_n 0, 1) := by decide +kernel
theorem dX11_addsTold_1 : decode cX11_addsTold 1 = .ok (.getfield 7, 3) := by decide +kernel
theorem dX11_addsTold_4 : decode cX11_addsTold 4 = .ok (.bipush 37, 2) := by decide +kernel
theorem dX11_addsTold_6 : decode cX11_addsTold 6 = .ok (.iaload, 1) := by decide +kernel
theorem dX11_addsTold_7 : decode cX11_addsTold 7 = .ok (.bipush 9, 2) := by decide +kernel
theorem dX11_addsTold_9 : decode cX11_addsTold 9 = .ok (.if_icmp .ge 49, 3) := by decide +kernel
theorem dX11_addsTold_12 : decode cX11_addsTold 12 = .ok (.iconst 0, 1) := by decide +kernel
theorem dX11_addsTold_13 : decode cX11_addsTold 13 = .ok (.istore_n 1, 1) := by decide +kernel
theorem dX11_addsTold_14 : decode cX11_addsTold 14 = .ok (.iload_n 1, 1) := by decide +kernel
theorem dX11_addsTold_15 : decode cX11_addsTold 15 = .ok (.iconst 4, 1) := by decide +kernel
theorem dX11_addsTold_16 : decode cX11_addsTold 16 = .ok (.if_icmp .ge 31, 3) := by decide +kernel
theorem dX11_addsTold_19 : decode cX11_addsTold 19 = .ok (.aload_n 0, 1) := by decide +kernel
theorem dX11_addsTold_20 : decode cX11_addsTold 20 = .ok (.getfield 7, 3) := by decide +kernel
theorem dX11_addsTold_23 : decode cX11_addsTold 23 = .ok (.iconst 4, 1) := by decide +kernel
theorem dX11_addsTold_24 : decode cX11_addsTold 24 = .ok (.aload_n 0, 1) := by decide +kernel
theorem dX11_addsTold_25 : decode cX11_addsTold 25 = .ok (.getfield 7, 3) := by decide +kernel
theorem dX11_addsTold_28 : decode cX11_addsTold 28 = .ok (.bipush 37, 2) := by decide +kernel
theorem dX11_addsTold_30 : decode cX11_addsTold 30 = .ok (.iaload, 1) := by decide +kernel
theorem dX11_addsTold_31 : decode cX11_addsTold 31 = .ok (.imul, 1) := by decide +kernel
theorem dX11_addsTold_32 : decode cX11_addsTold 32 = .ok (.iload_n 1, 1) := by decide +kernel
theorem dX11_addsTold_33 : decode cX11_addsTold 33 = .ok (.iadd, 1) := by decide +kernel
theorem dX11_addsTold_34 : decode cX11_addsTold 34 = .ok (.aload_n 0, 1) := by decide +kernel
theorem dX11_addsTold_35 : decode cX11_addsTold 35 = .ok (.getfield 51, 3) := by decide +kernel
theorem dX11_addsTold_38 : decode cX11_addsTold 38 = .ok (.iload_n 1, 1) := by decide +kernel
theorem dX11_addsTold_39 : decode cX11_addsTold 39 = .ok (.iaload, 1) := by decide +kernel
theorem dX11_addsTold_40 : decode cX11_addsTold 40 = .ok (.iastore, 1) := by decide +kernel
theorem dX11_addsTold_41 : decode cX11_addsTold 41 = .ok (.iinc 1 1, 3) := by decide +kernel
theorem dX11_addsTold_44 : decode cX11_addsTold 44 = .ok (.goto (-30), 3) := by decide +kernel
theorem dX11_addsTold_47 : decode cX11_addsTold 47 = .ok (.aload_n 0, 1) := by decide +kernel
theorem dX11_addsTold_48 : decode cX11_addsTold 48 = .ok (.getfield 7, 3) := by decide +kernel
theorem dX11_addsTold_51 : decode cX11_addsTold 51 = .ok (.bipush 37, 2) := by decide +kernel
theorem dX11_addsTold_53 : decode cX11_addsTold 53 = .ok (.dup2, 1) := by decide +kernel
theorem dX11_addsTold_54 : decode cX11_addsTold 54 = .ok (.iaload, 1) := by decide +kernel
theorem dX11_addsTold_55 : decode cX11_addsTold 55 = .ok (.iconst 1, 1) := by decide +kernel
theorem dX11_addsTold_56 : decode cX11_addsTold 56 = .ok (.iadd, 1) := by decide +kernel
theorem dX11_addsTold_57 : decode cX11_addsTold 57 = .ok (.iastore, 1) := by decide +kernel
theorem dX11_addsTold_58 : decode cX11_addsTold 58 = .ok (.return_, 1) := by decide +kernel
theorem dX11_isPlane_0 : decode cX11_isPlane 0 = .ok (.iload_n 1, 1) := by decide +kernel
theorem dX11_isPlane_1 : decode cX11_isPlane 1 = .ok (.iconst 0, 1) := by decide +kernel
theorem dX11_isPlane_2 : decode cX11_isPlane 2 = .ok (.aload_n 0, 1) := by decide +kernel
theorem dX11_isPlane_3 : decode cX11_isPlane 3 = .ok (.getfield 7, 3) := by decide +kernel
theorem dX11_isPlane_6 : decode cX11_isPlane 6 = .ok (.bipush 37, 2) := by decide +kernel
theorem dX11_isPlane_8 : decode cX11_isPlane 8 = .ok (.iaload, 1) := by decide +kernel
theorem dX11_isPlane_9 : decode cX11_isPlane 9 = .ok (.iconst 1, 1) := by decide +kernel
theorem dX11_isPlane_10 : decode cX11_isPlane 10 = .ok (.isub, 1) := by decide +kernel
theorem dX11_isPlane_11 : decode cX11_isPlane 11 = .ok (.invokestatic 113, 3) := by decide +kernel
theorem dX11_isPlane_14 : decode cX11_isPlane 14 = .ok (.ireturn, 1) := by decide +kernel
theorem dX11_doTurns_0 : decode cX11_doTurns 0 = .ok (.aload_n 0, 1) := by decide +kernel
theorem dX11_doTurns_1 : decode cX11_doTurns 1 = .ok (.iload_n 1, 1) := by decide +kernel
theorem dX11_doTurns_2 : decode cX11_doTurns 2 = .ok (.invokevirtual 151, 3) := by decide +kernel
theorem dX11_doTurns_5 : decode cX11_doTurns 5 = .ok (.ifCond .ne 6, 3) := by decide +kernel
theorem dX11_doTurns_8 : decode cX11_doTurns 8 = .ok (.bipush (-2), 2) := by decide +kernel
theorem dX11_doTurns_10 : decode cX11_doTurns 10 = .ok (.ireturn, 1) := by decide +kernel
theorem dX11_doTurns_11 : decode cX11_doTurns 11 = .ok (.iconst 0, 1) := by decide +kernel
theorem dX11_doTurns_12 : decode cX11_doTurns 12 = .ok (.istore_n 2, 1) := by decide +kernel
theorem dX11_doTurns_13 : decode cX11_doTurns 13 = .ok (.iload_n 2, 1) := by decide +kernel
theorem dX11_doTurns_14 : decode cX11_doTurns 14 = .ok (.iconst 4, 1) := by decide +kernel
theorem dX11_doTurns_15 : decode cX11_doTurns 15 = .ok (.if_icmp .ge 30, 3) := by decide +kernel
theorem dX11_doTurns_18 : decode cX11_doTurns 18 = .ok (.aload_n 0, 1) := by decide +kernel
theorem dX11_doTurns_19 : decode cX11_doTurns 19 = .ok (.getfield 7, 3) := by decide +kernel
theorem dX11_doTurns_22 : decode cX11_doTurns 22 = .ok (.iconst 4, 1) := by decide +kernel
theorem dX11_doTurns_23 : decode cX11_doTurns 23 = .ok (.iload_n 1, 1) := by decide +kernel
theorem dX11_doTurns_24 : decode cX11_doTurns 24 = .ok (.imul, 1) := by decide +kernel
theorem dX11_doTurns_25 : decode cX11_doTurns 25 = .ok (.iload_n 2, 1) := by decide +kernel
theorem dX11_doTurns_26 : decode cX11_doTurns 26 = .ok (.iadd, 1) := by decide +kernel
theorem dX11_doTurns_27 : decode cX11_doTurns 27 = .ok (.aload_n 0, 1) := by decide +kernel
theorem dX11_doTurns_28 : decode cX11_doTurns 28 = .ok (.getfield 7, 3) := by decide +kernel
theorem dX11_doTurns_31 : decode cX11_doTurns 31 = .ok (.iconst 4, 1) := by decide +kernel
theorem dX11_doTurns_32 : decode cX11_doTurns 32 = .ok (.iload_n 1, 1) := by decide +kernel
theorem dX11_doTurns_33 : decode cX11_doTurns 33 = .ok (.imul, 1) := by decide +kernel
theorem dX11_doTurns_34 : decode cX11_doTurns 34 = .ok (.iload_n 2, 1) := by decide +kernel
theorem dX11_doTurns_35 : decode cX11_doTurns 35 = .ok (.iadd, 1) := by decide +kernel
theorem dX11_doTurns_36 : decode cX11_doTurns 36 = .ok (.iaload, 1) := by decide +kernel
theorem dX11_doTurns_37 : decode cX11_doTurns 37 = .ok (.ineg, 1) := by decide +kernel
theorem dX11_doTurns_38 : decode cX11_doTurns 38 = .ok (.iastore, 1) := by decide +kernel
theorem dX11_doTurns_39 : decode cX11_doTurns 39 = .ok (.iinc 2 1, 3) := by decide +kernel
theorem dX11_doTurns_42 : decode cX11_doTurns 42 = .ok (.goto (-29), 3) := by decide +kernel
theorem dX11_doTurns_45 : decode cX11_doTurns 45 = .ok (.iload_n 1, 1) := by decide +kernel
theorem dX11_doTurns_46 : decode cX11_doTurns 46 = .ok (.ireturn, 1) := by decide +kernel
theorem dX11_doDrops_0 : decode cX11_doDrops 0 = .ok (.aload_n 0, 1) := by decide +kernel
theorem dX11_doDrops_1 : decode cX11_doDrops 1 = .ok (.iload_n 1, 1) := by decide +kernel
theorem dX11_doDrops_2 : decode cX11_doDrops 2 = .ok (.invokevirtual 151, 3) := by decide +kernel
theorem dX11_doDrops_5 : decode cX11_doDrops 5 = .ok (.ifCond .ne 6, 3) := by decide +kernel
theorem dX11_doDrops_8 : decode cX11_doDrops 8 = .ok (.bipush (-2), 2) := by decide +kernel
theorem dX11_doDrops_10 : decode cX11_doDrops 10 = .ok (.ireturn, 1) := by decide +kernel
theorem dX11_doDrops_11 : decode cX11_doDrops 11 = .ok (.iconst 4, 1) := by decide +kernel
theorem dX11_doDrops_12 : decode cX11_doDrops 12 = .ok (.iload_n 1, 1) := by decide +kernel
theorem dX11_doDrops_13 : decode cX11_doDrops 13 = .ok (.imul, 1) := by decide +kernel
theorem dX11_doDrops_14 : decode cX11_doDrops 14 = .ok (.istore_n 2, 1) := by decide +kernel
theorem dX11_doDrops_15 : decode cX11_doDrops 15 = .ok (.iload_n 2, 1) := by decide +kernel
theorem dX11_doDrops_16 : decode cX11_doDrops 16 = .ok (.bipush 32, 2) := by decide +kernel
theorem dX11_doDrops_18 : decode cX11_doDrops 18 = .ok (.if_icmp .ge 23, 3) := by decide +kernel
theorem dX11_doDrops_21 : decode cX11_doDrops 21 = .ok (.aload_n 0, 1) := by decide +kernel
theorem dX11_doDrops_22 : decode cX11_doDrops 22 = .ok (.getfield 7, 3) := by decide +kernel
theorem dX11_doDrops_25 : decode cX11_doDrops 25 = .ok (.iload_n 2, 1) := by decide +kernel
theorem dX11_doDrops_26 : decode cX11_doDrops 26 = .ok (.aload_n 0, 1) := by decide +kernel
theorem dX11_doDrops_27 : decode cX11_doDrops 27 = .ok (.getfield 7, 3) := by decide +kernel
theorem dX11_doDrops_30 : decode cX11_doDrops 30 = .ok (.iload_n 2, 1) := by decide +kernel
theorem dX11_doDrops_31 : decode cX11_doDrops 31 = .ok (.iconst 4, 1) := by decide +kernel
theorem dX11_doDrops_32 : decode cX11_doDrops 32 = .ok (.iadd, 1) := by decide +kernel
theorem dX11_doDrops_33 : decode cX11_doDrops 33 = .ok (.iaload, 1) := by decide +kernel
theorem dX11_doDrops_34 : decode cX11_doDrops 34 = .ok (.iastore, 1) := by decide +kernel
theorem dX11_doDrops_35 : decode cX11_doDrops 35 = .ok (.iinc 2 1, 3) := by decide +kernel
theorem dX11_doDrops_38 : decode cX11_doDrops 38 = .ok (.goto (-23), 3) := by decide +kernel
theorem dX11_doDrops_41 : decode cX11_doDrops 41 = .ok (.aload_n 0, 1) := by decide +kernel
theorem dX11_doDrops_42 : decode cX11_doDrops 42 = .ok (.getfield 7, 3) := by decide +kernel
theorem dX11_doDrops_45 : decode cX11_doDrops 45 = .ok (.bipush 37, 2) := by decide +kernel
theorem dX11_doDrops_47 : decode cX11_doDrops 47 = .ok (.dup2, 1) := by decide +kernel
theorem dX11_doDrops_48 : decode cX11_doDrops 48 = .ok (.iaload, 1) := by decide +kernel
theorem dX11_doDrops_49 : decode cX11_doDrops 49 = .ok (.iconst 1, 1) := by decide +kernel
theorem dX11_doDrops_50 : decode cX11_doDrops 50 = .ok (.isub, 1) := by decide +kernel
theorem dX11_doDrops_51 : decode cX11_doDrops 51 = .ok (.iastore, 1) := by decide +kernel
theorem dX11_doDrops_52 : decode cX11_doDrops 52 = .ok (.aload_n 0, 1) := by decide +kernel
theorem dX11_doDrops_53 : decode cX11_doDrops 53 = .ok (.getfield 7, 3) := by decide +kernel
theorem dX11_doDrops_56 : decode cX11_doDrops 56 = .ok (.bipush 37, 2) := by decide +kernel
theorem dX11_doDrops_58 : decode cX11_doDrops 58 = .ok (.iaload, 1) := by decide +kernel
theorem dX11_doDrops_59 : decode cX11_doDrops 59 = .ok (.ireturn, 1) := by decide +kernel
theorem dX11_doSwaps_0 : decode cX11_doSwaps 0 = .ok (.aload_n 0, 1) := by decide +kernel
theorem dX11_doSwaps_1 : decode cX11_doSwaps 1 = .ok (.iload_n 1, 1) := by decide +kernel
theorem dX11_doSwaps_2 : decode cX11_doSwaps 2 = .ok (.invokevirtual 151, 3) := by decide +kernel
theorem dX11_doSwaps_5 : decode cX11_doSwaps 5 = .ok (.ifCond .eq 16, 3) := by decide +kernel
theorem dX11_doSwaps_8 : decode cX11_doSwaps 8 = .ok (.aload_n 0, 1) := by decide +kernel
theorem dX11_doSwaps_9 : decode cX11_doSwaps 9 = .ok (.iload_n 2, 1) := by decide +kernel
theorem dX11_doSwaps_10 : decode cX11_doSwaps 10 = .ok (.invokevirtual 151, 3) := by decide +kernel
theorem dX11_doSwaps_13 : decode cX11_doSwaps 13 = .ok (.ifCond .eq 8, 3) := by decide +kernel
theorem dX11_doSwaps_16 : decode cX11_doSwaps 16 = .ok (.iload_n 1, 1) := by decide +kernel
theorem dX11_doSwaps_17 : decode cX11_doSwaps 17 = .ok (.iload_n 2, 1) := by decide +kernel
theorem dX11_doSwaps_18 : decode cX11_doSwaps 18 = .ok (.if_icmp .ne 6, 3) := by decide +kernel
theorem dX11_doSwaps_21 : decode cX11_doSwaps 21 = .ok (.bipush (-2), 2) := by decide +kernel
theorem dX11_doSwaps_23 : decode cX11_doSwaps 23 = .ok (.ireturn, 1) := by decide +kernel
theorem dX11_doSwaps_24 : decode cX11_doSwaps 24 = .ok (.iconst 0, 1) := by decide +kernel
theorem dX11_doSwaps_25 : decode cX11_doSwaps 25 = .ok (.istore_n 3, 1) := by decide +kernel
theorem dX11_doSwaps_26 : decode cX11_doSwaps 26 = .ok (.iload_n 3, 1) := by decide +kernel
theorem dX11_doSwaps_27 : decode cX11_doSwaps 27 = .ok (.iconst 4, 1) := by decide +kernel
theorem dX11_doSwaps_28 : decode cX11_doSwaps 28 = .ok (.if_icmp .ge 53, 3) := by decide +kernel
theorem dX11_doSwaps_31 : decode cX11_doSwaps 31 = .ok (.aload_n 0, 1) := by decide +kernel
theorem dX11_doSwaps_32 : decode cX11_doSwaps 32 = .ok (.getfield 7, 3) := by decide +kernel
theorem dX11_doSwaps_35 : decode cX11_doSwaps 35 = .ok (.iconst 4, 1) := by decide +kernel
theorem dX11_doSwaps_36 : decode cX11_doSwaps 36 = .ok (.iload_n 1, 1) := by decide +kernel
theorem dX11_doSwaps_37 : decode cX11_doSwaps 37 = .ok (.imul, 1) := by decide +kernel
theorem dX11_doSwaps_38 : decode cX11_doSwaps 38 = .ok (.iload_n 3, 1) := by decide +kernel
theorem dX11_doSwaps_39 : decode cX11_doSwaps 39 = .ok (.iadd, 1) := by decide +kernel
theorem dX11_doSwaps_40 : decode cX11_doSwaps 40 = .ok (.iaload, 1) := by decide +kernel
theorem dX11_doSwaps_41 : decode cX11_doSwaps 41 = .ok (.istore 4, 2) := by decide +kernel
theorem dX11_doSwaps_43 : decode cX11_doSwaps 43 = .ok (.aload_n 0, 1) := by decide +kernel
theorem dX11_doSwaps_44 : decode cX11_doSwaps 44 = .ok (.getfield 7, 3) := by decide +kernel
theorem dX11_doSwaps_47 : decode cX11_doSwaps 47 = .ok (.iconst 4, 1) := by decide +kernel
theorem dX11_doSwaps_48 : decode cX11_doSwaps 48 = .ok (.iload_n 1, 1) := by decide +kernel
theorem dX11_doSwaps_49 : decode cX11_doSwaps 49 = .ok (.imul, 1) := by decide +kernel
theorem dX11_doSwaps_50 : decode cX11_doSwaps 50 = .ok (.iload_n 3, 1) := by decide +kernel
theorem dX11_doSwaps_51 : decode cX11_doSwaps 51 = .ok (.iadd, 1) := by decide +kernel
theorem dX11_doSwaps_52 : decode cX11_doSwaps 52 = .ok (.aload_n 0, 1) := by decide +kernel
theorem dX11_doSwaps_53 : decode cX11_doSwaps 53 = .ok (.getfield 7, 3) := by decide +kernel
theorem dX11_doSwaps_56 : decode cX11_doSwaps 56 = .ok (.iconst 4, 1) := by decide +kernel
theorem dX11_doSwaps_57 : decode cX11_doSwaps 57 = .ok (.iload_n 2, 1) := by decide +kernel
theorem dX11_doSwaps_58 : decode cX11_doSwaps 58 = .ok (.imul, 1) := by decide +kernel
theorem dX11_doSwaps_59 : decode cX11_doSwaps 59 = .ok (.iload_n 3, 1) := by decide +kernel
theorem dX11_doSwaps_60 : decode cX11_doSwaps 60 = .ok (.iadd, 1) := by decide +kernel
theorem dX11_doSwaps_61 : decode cX11_doSwaps 61 = .ok (.iaload, 1) := by decide +kernel
theorem dX11_doSwaps_62 : decode cX11_doSwaps 62 = .ok (.iastore, 1) := by decide +kernel
theorem dX11_doSwaps_63 : decode cX11_doSwaps 63 = .ok (.aload_n 0, 1) := by decide +kernel
theorem dX11_doSwaps_64 : decode cX11_doSwaps 64 = .ok (.getfield 7, 3) := by decide +kernel
theorem dX11_doSwaps_67 : decode cX11_doSwaps 67 = .ok (.iconst 4, 1) := by decide +kernel
theorem dX11_doSwaps_68 : decode cX11_doSwaps 68 = .ok (.iload_n 2, 1) := by decide +kernel
theorem dX11_doSwaps_69 : decode cX11_doSwaps 69 = .ok (.imul, 1) := by decide +kernel
theorem dX11_doSwaps_70 : decode cX11_doSwaps 70 = .ok (.iload_n 3, 1) := by decide +kernel
theorem dX11_doSwaps_71 : decode cX11_doSwaps 71 = .ok (.iadd, 1) := by decide +kernel
theorem dX11_doSwaps_72 : decode cX11_doSwaps 72 = .ok (.iload 4, 2) := by decide +kernel
theorem dX11_doSwaps_74 : decode cX11_doSwaps 74 = .ok (.iastore, 1) := by decide +kernel
theorem dX11_doSwaps_75 : decode cX11_doSwaps 75 = .ok (.iinc 3 1, 3) := by decide +kernel
theorem dX11_doSwaps_78 : decode cX11_doSwaps 78 = .ok (.goto (-52), 3) := by decide +kernel
theorem dX11_doSwaps_81 : decode cX11_doSwaps 81 = .ok (.iload_n 1, 1) := by decide +kernel
theorem dX11_doSwaps_82 : decode cX11_doSwaps 82 = .ok (.ireturn, 1) := by decide +kernel
theorem dX11_makesOne_0 : decode cX11_makesOne 0 = .ok (.iconst 0, 1) := by decide +kernel
theorem dX11_makesOne_1 : decode cX11_makesOne 1 = .ok (.istore 5, 2) := by decide +kernel
theorem dX11_makesOne_3 : decode cX11_makesOne 3 = .ok (.iload 5, 2) := by decide +kernel
theorem dX11_makesOne_5 : decode cX11_makesOne 5 = .ok (.iconst 4, 1) := by decide +kernel
theorem dX11_makesOne_6 : decode cX11_makesOne 6 = .ok (.if_icmp .ge 38, 3) := by decide +kernel
theorem dX11_makesOne_9 : decode cX11_makesOne 9 = .ok (.aload_n 0, 1) := by decide +kernel
theorem dX11_makesOne_10 : decode cX11_makesOne 10 = .ok (.getfield 51, 3) := by decide +kernel
theorem dX11_makesOne_13 : decode cX11_makesOne 13 = .ok (.iload 5, 2) := by decide +kernel
theorem dX11_makesOne_15 : decode cX11_makesOne 15 = .ok (.iload 5, 2) := by decide +kernel
theorem dX11_makesOne_17 : decode cX11_makesOne 17 = .ok (.iload_n 1, 1) := by decide +kernel
theorem dX11_makesOne_18 : decode cX11_makesOne 18 = .ok (.if_icmp .ne 7, 3) := by decide +kernel
theorem dX11_makesOne_21 : decode cX11_makesOne 21 = .ok (.iload_n 2, 1) := by decide +kernel
theorem dX11_makesOne_22 : decode cX11_makesOne 22 = .ok (.goto 15, 3) := by decide +kernel
theorem dX11_makesOne_25 : decode cX11_makesOne 25 = .ok (.iload 5, 2) := by decide +kernel
theorem dX11_makesOne_27 : decode cX11_makesOne 27 = .ok (.iload_n 3, 1) := by decide +kernel
theorem dX11_makesOne_28 : decode cX11_makesOne 28 = .ok (.if_icmp .ne 8, 3) := by decide +kernel
theorem dX11_makesOne_31 : decode cX11_makesOne 31 = .ok (.iload 4, 2) := by decide +kernel
theorem dX11_makesOne_33 : decode cX11_makesOne 33 = .ok (.goto 4, 3) := by decide +kernel
theorem dX11_makesOne_36 : decode cX11_makesOne 36 = .ok (.iconst 0, 1) := by decide +kernel
theorem dX11_makesOne_37 : decode cX11_makesOne 37 = .ok (.iastore, 1) := by decide +kernel
theorem dX11_makesOne_38 : decode cX11_makesOne 38 = .ok (.iinc 5 1, 3) := by decide +kernel
theorem dX11_makesOne_41 : decode cX11_makesOne 41 = .ok (.goto (-38), 3) := by decide +kernel
theorem dX11_makesOne_44 : decode cX11_makesOne 44 = .ok (.aload_n 0, 1) := by decide +kernel
theorem dX11_makesOne_45 : decode cX11_makesOne 45 = .ok (.invokevirtual 148, 3) := by decide +kernel
theorem dX11_makesOne_48 : decode cX11_makesOne 48 = .ok (.return_, 1) := by decide +kernel
theorem dX11_doMakes_0 : decode cX11_doMakes 0 = .ok (.iload_n 1, 1) := by decide +kernel
theorem dX11_doMakes_1 : decode cX11_doMakes 1 = .ok (.iconst 0, 1) := by decide +kernel
theorem dX11_doMakes_2 : decode cX11_doMakes 2 = .ok (.iconst 3, 1) := by decide +kernel
theorem dX11_doMakes_3 : decode cX11_doMakes 3 = .ok (.invokestatic 113, 3) := by decide +kernel
theorem dX11_doMakes_6 : decode cX11_doMakes 6 = .ok (.ifCond .ne 6, 3) := by decide +kernel
theorem dX11_doMakes_9 : decode cX11_doMakes 9 = .ok (.bipush (-2), 2) := by decide +kernel
theorem dX11_doMakes_11 : decode cX11_doMakes 11 = .ok (.ireturn, 1) := by decide +kernel
theorem dX11_doMakes_12 : decode cX11_doMakes 12 = .ok (.aload_n 0, 1) := by decide +kernel
theorem dX11_doMakes_13 : decode cX11_doMakes 13 = .ok (.getfield 7, 3) := by decide +kernel
theorem dX11_doMakes_16 : decode cX11_doMakes 16 = .ok (.bipush 37, 2) := by decide +kernel
theorem dX11_doMakes_18 : decode cX11_doMakes 18 = .ok (.iconst 0, 1) := by decide +kernel
theorem dX11_doMakes_19 : decode cX11_doMakes 19 = .ok (.iastore, 1) := by decide +kernel
theorem dX11_doMakes_20 : decode cX11_doMakes 20 = .ok (.iconst 0, 1) := by decide +kernel
theorem dX11_doMakes_21 : decode cX11_doMakes 21 = .ok (.istore_n 2, 1) := by decide +kernel
theorem dX11_doMakes_22 : decode cX11_doMakes 22 = .ok (.iload_n 2, 1) := by decide +kernel
theorem dX11_doMakes_23 : decode cX11_doMakes 23 = .ok (.aload_n 0, 1) := by decide +kernel
theorem dX11_doMakes_24 : decode cX11_doMakes 24 = .ok (.getfield 7, 3) := by decide +kernel
theorem dX11_doMakes_27 : decode cX11_doMakes 27 = .ok (.bipush 36, 2) := by decide +kernel
theorem dX11_doMakes_29 : decode cX11_doMakes 29 = .ok (.iaload, 1) := by decide +kernel
theorem dX11_doMakes_30 : decode cX11_doMakes 30 = .ok (.if_icmp .ge 26, 3) := by decide +kernel
theorem dX11_doMakes_33 : decode cX11_doMakes 33 = .ok (.iload_n 1, 1) := by decide +kernel
theorem dX11_doMakes_34 : decode cX11_doMakes 34 = .ok (.ifCond .eq 8, 3) := by decide +kernel
theorem dX11_doMakes_37 : decode cX11_doMakes 37 = .ok (.iload_n 1, 1) := by decide +kernel
theorem dX11_doMakes_38 : decode cX11_doMakes 38 = .ok (.iconst 3, 1) := by decide +kernel
theorem dX11_doMakes_39 : decode cX11_doMakes 39 = .ok (.if_icmp .ne 17, 3) := by decide +kernel
theorem dX11_doMakes_42 : decode cX11_doMakes 42 = .ok (.aload_n 0, 1) := by decide +kernel
theorem dX11_doMakes_43 : decode cX11_doMakes 43 = .ok (.iload_n 2, 1) := by decide +kernel
theorem dX11_doMakes_44 : decode cX11_doMakes 44 = .ok (.iconst 1, 1) := by decide +kernel
theorem dX11_doMakes_45 : decode cX11_doMakes 45 = .ok (.iload_n 2, 1) := by decide +kernel
theorem dX11_doMakes_46 : decode cX11_doMakes 46 = .ok (.iconst 1, 1) := by decide +kernel
theorem dX11_doMakes_47 : decode cX11_doMakes 47 = .ok (.invokevirtual 154, 3) := by decide +kernel
theorem dX11_doMakes_50 : decode cX11_doMakes 50 = .ok (.iinc 2 1, 3) := by decide +kernel
theorem dX11_doMakes_53 : decode cX11_doMakes 53 = .ok (.goto (-31), 3) := by decide +kernel
theorem dX11_doMakes_56 : decode cX11_doMakes 56 = .ok (.iconst 1, 1) := by decide +kernel
theorem dX11_doMakes_57 : decode cX11_doMakes 57 = .ok (.istore_n 2, 1) := by decide +kernel
theorem dX11_doMakes_58 : decode cX11_doMakes 58 = .ok (.iload_n 2, 1) := by decide +kernel
theorem dX11_doMakes_59 : decode cX11_doMakes 59 = .ok (.aload_n 0, 1) := by decide +kernel
theorem dX11_doMakes_60 : decode cX11_doMakes 60 = .ok (.getfield 7, 3) := by decide +kernel
theorem dX11_doMakes_63 : decode cX11_doMakes 63 = .ok (.bipush 36, 2) := by decide +kernel
theorem dX11_doMakes_65 : decode cX11_doMakes 65 = .ok (.iaload, 1) := by decide +kernel
theorem dX11_doMakes_66 : decode cX11_doMakes 66 = .ok (.if_icmp .ge 47, 3) := by decide +kernel
theorem dX11_doMakes_69 : decode cX11_doMakes 69 = .ok (.iload_n 1, 1) := by decide +kernel
theorem dX11_doMakes_70 : decode cX11_doMakes 70 = .ok (.ifCond .le 43, 3) := by decide +kernel
theorem dX11_doMakes_73 : decode cX11_doMakes 73 = .ok (.iconst 0, 1) := by decide +kernel
theorem dX11_doMakes_74 : decode cX11_doMakes 74 = .ok (.istore_n 3, 1) := by decide +kernel
theorem dX11_doMakes_75 : decode cX11_doMakes 75 = .ok (.iload_n 3, 1) := by decide +kernel
theorem dX11_doMakes_76 : decode cX11_doMakes 76 = .ok (.iload_n 2, 1) := by decide +kernel
theorem dX11_doMakes_77 : decode cX11_doMakes 77 = .ok (.if_icmp .ge 30, 3) := by decide +kernel
theorem dX11_doMakes_80 : decode cX11_doMakes 80 = .ok (.aload_n 0, 1) := by decide +kernel
theorem dX11_doMakes_81 : decode cX11_doMakes 81 = .ok (.iload_n 3, 1) := by decide +kernel
theorem dX11_doMakes_82 : decode cX11_doMakes 82 = .ok (.iconst 1, 1) := by decide +kernel
theorem dX11_doMakes_83 : decode cX11_doMakes 83 = .ok (.iload_n 2, 1) := by decide +kernel
theorem dX11_doMakes_84 : decode cX11_doMakes 84 = .ok (.iconst (-1), 1) := by decide +kernel
theorem dX11_doMakes_85 : decode cX11_doMakes 85 = .ok (.invokevirtual 154, 3) := by decide +kernel
theorem dX11_doMakes_88 : decode cX11_doMakes 88 = .ok (.iload_n 1, 1) := by decide +kernel
theorem dX11_doMakes_89 : decode cX11_doMakes 89 = .ok (.iconst 1, 1) := by decide +kernel
theorem dX11_doMakes_90 : decode cX11_doMakes 90 = .ok (.if_icmp .le 11, 3) := by decide +kernel
theorem dX11_doMakes_93 : decode cX11_doMakes 93 = .ok (.aload_n 0, 1) := by decide +kernel
theorem dX11_doMakes_94 : decode cX11_doMakes 94 = .ok (.iload_n 3, 1) := by decide +kernel
theorem dX11_doMakes_95 : decode cX11_doMakes 95 = .ok (.iconst 1, 1) := by decide +kernel
theorem dX11_doMakes_96 : decode cX11_doMakes 96 = .ok (.iload_n 2, 1) := by decide +kernel
theorem dX11_doMakes_97 : decode cX11_doMakes 97 = .ok (.iconst 1, 1) := by decide +kernel
theorem dX11_doMakes_98 : decode cX11_doMakes 98 = .ok (.invokevirtual 154, 3) := by decide +kernel
theorem dX11_doMakes_101 : decode cX11_doMakes 101 = .ok (.iinc 3 1, 3) := by decide +kernel
theorem dX11_doMakes_104 : decode cX11_doMakes 104 = .ok (.goto (-29), 3) := by decide +kernel
theorem dX11_doMakes_107 : decode cX11_doMakes 107 = .ok (.iinc 2 1, 3) := by decide +kernel
theorem dX11_doMakes_110 : decode cX11_doMakes 110 = .ok (.goto (-52), 3) := by decide +kernel
theorem dX11_doMakes_113 : decode cX11_doMakes 113 = .ok (.aload_n 0, 1) := by decide +kernel
theorem dX11_doMakes_114 : decode cX11_doMakes 114 = .ok (.getfield 7, 3) := by decide +kernel
theorem dX11_doMakes_117 : decode cX11_doMakes 117 = .ok (.bipush 37, 2) := by decide +kernel
theorem dX11_doMakes_119 : decode cX11_doMakes 119 = .ok (.iaload, 1) := by decide +kernel
theorem dX11_doMakes_120 : decode cX11_doMakes 120 = .ok (.ireturn, 1) := by decide +kernel
theorem dX11_ends_0 : decode cX11_ends 0 = .ok (.iload_n 1, 1) := by decide +kernel
theorem dX11_ends_1 : decode cX11_ends 1 = .ok (.ifCond .ge 9, 3) := by decide +kernel
theorem dX11_ends_4 : decode cX11_ends 4 = .ok (.aload_n 0, 1) := by decide +kernel
theorem dX11_ends_5 : decode cX11_ends 5 = .ok (.iload_n 1, 1) := by decide +kernel
theorem dX11_ends_6 : decode cX11_ends 6 = .ok (.invokevirtual 89, 3) := by decide +kernel
theorem dX11_ends_9 : decode cX11_ends 9 = .ok (.ireturn, 1) := by decide +kernel
theorem dX11_ends_10 : decode cX11_ends 10 = .ok (.aload_n 0, 1) := by decide +kernel
theorem dX11_ends_11 : decode cX11_ends 11 = .ok (.invokevirtual 158, 3) := by decide +kernel
theorem dX11_ends_14 : decode cX11_ends 14 = .ok (.iload_n 1, 1) := by decide +kernel
theorem dX11_ends_15 : decode cX11_ends 15 = .ok (.ireturn, 1) := by decide +kernel
theorem dX11_space_0 : decode cX11_space 0 = .ok (.aload_n 0, 1) := by decide +kernel
theorem dX11_space_1 : decode cX11_space 1 = .ok (.invokevirtual 161, 3) := by decide +kernel
theorem dX11_space_4 : decode cX11_space 4 = .ok (.aload_n 0, 1) := by decide +kernel
theorem dX11_space_5 : decode cX11_space 5 = .ok (.aload_n 0, 1) := by decide +kernel
theorem dX11_space_6 : decode cX11_space 6 = .ok (.iload_n 1, 1) := by decide +kernel
theorem dX11_space_7 : decode cX11_space 7 = .ok (.invokevirtual 164, 3) := by decide +kernel
theorem dX11_space_10 : decode cX11_space 10 = .ok (.invokevirtual 167, 3) := by decide +kernel
theorem dX11_space_13 : decode cX11_space 13 = .ok (.ifCond .ge 8, 3) := by decide +kernel
theorem dX11_space_16 : decode cX11_space 16 = .ok (.bipush (-2), 2) := by decide +kernel
theorem dX11_space_18 : decode cX11_space 18 = .ok (.goto 10, 3) := by decide +kernel
theorem dX11_space_21 : decode cX11_space 21 = .ok (.aload_n 0, 1) := by decide +kernel
theorem dX11_space_22 : decode cX11_space 22 = .ok (.getfield 13, 3) := by decide +kernel
theorem dX11_space_25 : decode cX11_space 25 = .ok (.bipush 36, 2) := by decide +kernel
theorem dX11_space_27 : decode cX11_space 27 = .ok (.iaload, 1) := by decide +kernel
theorem dX11_space_28 : decode cX11_space 28 = .ok (.ireturn, 1) := by decide +kernel
theorem dX11_plane_0 : decode cX11_plane 0 = .ok (.aload_n 0, 1) := by decide +kernel
theorem dX11_plane_1 : decode cX11_plane 1 = .ok (.invokevirtual 161, 3) := by decide +kernel
theorem dX11_plane_4 : decode cX11_plane 4 = .ok (.aload_n 0, 1) := by decide +kernel
theorem dX11_plane_5 : decode cX11_plane 5 = .ok (.aload_n 0, 1) := by decide +kernel
theorem dX11_plane_6 : decode cX11_plane 6 = .ok (.iload_n 1, 1) := by decide +kernel
theorem dX11_plane_7 : decode cX11_plane 7 = .ok (.iload_n 2, 1) := by decide +kernel
theorem dX11_plane_8 : decode cX11_plane 8 = .ok (.iload_n 3, 1) := by decide +kernel
theorem dX11_plane_9 : decode cX11_plane 9 = .ok (.iload 4, 2) := by decide +kernel
theorem dX11_plane_11 : decode cX11_plane 11 = .ok (.invokevirtual 170, 3) := by decide +kernel
theorem dX11_plane_14 : decode cX11_plane 14 = .ok (.invokevirtual 167, 3) := by decide +kernel
theorem dX11_plane_17 : decode cX11_plane 17 = .ok (.ireturn, 1) := by decide +kernel
theorem dX11_turns_0 : decode cX11_turns 0 = .ok (.aload_n 0, 1) := by decide +kernel
theorem dX11_turns_1 : decode cX11_turns 1 = .ok (.invokevirtual 161, 3) := by decide +kernel
theorem dX11_turns_4 : decode cX11_turns 4 = .ok (.aload_n 0, 1) := by decide +kernel
theorem dX11_turns_5 : decode cX11_turns 5 = .ok (.aload_n 0, 1) := by decide +kernel
theorem dX11_turns_6 : decode cX11_turns 6 = .ok (.iload_n 1, 1) := by decide +kernel
theorem dX11_turns_7 : decode cX11_turns 7 = .ok (.invokevirtual 174, 3) := by decide +kernel
theorem dX11_turns_10 : decode cX11_turns 10 = .ok (.invokevirtual 167, 3) := by decide +kernel
theorem dX11_turns_13 : decode cX11_turns 13 = .ok (.ifCond .ge 8, 3) := by decide +kernel
theorem dX11_turns_16 : decode cX11_turns 16 = .ok (.bipush (-2), 2) := by decide +kernel
theorem dX11_turns_18 : decode cX11_turns 18 = .ok (.goto 7, 3) := by decide +kernel
theorem dX11_turns_21 : decode cX11_turns 21 = .ok (.aload_n 0, 1) := by decide +kernel
theorem dX11_turns_22 : decode cX11_turns 22 = .ok (.invokevirtual 177, 3) := by decide +kernel
theorem dX11_turns_25 : decode cX11_turns 25 = .ok (.ireturn, 1) := by decide +kernel
theorem dX11_drops_0 : decode cX11_drops 0 = .ok (.aload_n 0, 1) := by decide +kernel
theorem dX11_drops_1 : decode cX11_drops 1 = .ok (.invokevirtual 161, 3) := by decide +kernel
theorem dX11_drops_4 : decode cX11_drops 4 = .ok (.aload_n 0, 1) := by decide +kernel
theorem dX11_drops_5 : decode cX11_drops 5 = .ok (.aload_n 0, 1) := by decide +kernel
theorem dX11_drops_6 : decode cX11_drops 6 = .ok (.iload_n 1, 1) := by decide +kernel
theorem dX11_drops_7 : decode cX11_drops 7 = .ok (.invokevirtual 180, 3) := by decide +kernel
theorem dX11_drops_10 : decode cX11_drops 10 = .ok (.invokevirtual 167, 3) := by decide +kernel
theorem dX11_drops_13 : decode cX11_drops 13 = .ok (.ireturn, 1) := by decide +kernel
theorem dX11_swaps_0 : decode cX11_swaps 0 = .ok (.aload_n 0, 1) := by decide +kernel
theorem dX11_swaps_1 : decode cX11_swaps 1 = .ok (.invokevirtual 161, 3) := by decide +kernel
theorem dX11_swaps_4 : decode cX11_swaps 4 = .ok (.aload_n 0, 1) := by decide +kernel
theorem dX11_swaps_5 : decode cX11_swaps 5 = .ok (.aload_n 0, 1) := by decide +kernel
theorem dX11_swaps_6 : decode cX11_swaps 6 = .ok (.iload_n 1, 1) := by decide +kernel
theorem dX11_swaps_7 : decode cX11_swaps 7 = .ok (.iload_n 2, 1) := by decide +kernel
theorem dX11_swaps_8 : decode cX11_swaps 8 = .ok (.invokevirtual 183, 3) := by decide +kernel
theorem dX11_swaps_11 : decode cX11_swaps 11 = .ok (.invokevirtual 167, 3) := by decide +kernel
theorem dX11_swaps_14 : decode cX11_swaps 14 = .ok (.ifCond .ge 6, 3) := by decide +kernel
theorem dX11_swaps_17 : decode cX11_swaps 17 = .ok (.bipush (-2), 2) := by decide +kernel
theorem dX11_swaps_19 : decode cX11_swaps 19 = .ok (.ireturn, 1) := by decide +kernel
theorem dX11_swaps_20 : decode cX11_swaps 20 = .ok (.aload_n 0, 1) := by decide +kernel
theorem dX11_swaps_21 : decode cX11_swaps 21 = .ok (.invokevirtual 187, 3) := by decide +kernel
theorem dX11_swaps_24 : decode cX11_swaps 24 = .ok (.aload_n 0, 1) := by decide +kernel
theorem dX11_swaps_25 : decode cX11_swaps 25 = .ok (.getfield 29, 3) := by decide +kernel
theorem dX11_swaps_28 : decode cX11_swaps 28 = .ok (.aload_n 0, 1) := by decide +kernel
theorem dX11_swaps_29 : decode cX11_swaps 29 = .ok (.invokevirtual 109, 3) := by decide +kernel
theorem dX11_swaps_32 : decode cX11_swaps 32 = .ok (.iaload, 1) := by decide +kernel
theorem dX11_swaps_33 : decode cX11_swaps 33 = .ok (.ireturn, 1) := by decide +kernel
theorem dX11_makes_0 : decode cX11_makes 0 = .ok (.aload_n 0, 1) := by decide +kernel
theorem dX11_makes_1 : decode cX11_makes 1 = .ok (.invokevirtual 161, 3) := by decide +kernel
theorem dX11_makes_4 : decode cX11_makes 4 = .ok (.aload_n 0, 1) := by decide +kernel
theorem dX11_makes_5 : decode cX11_makes 5 = .ok (.aload_n 0, 1) := by decide +kernel
theorem dX11_makes_6 : decode cX11_makes 6 = .ok (.iload_n 1, 1) := by decide +kernel
theorem dX11_makes_7 : decode cX11_makes 7 = .ok (.invokevirtual 190, 3) := by decide +kernel
theorem dX11_makes_10 : decode cX11_makes 10 = .ok (.invokevirtual 167, 3) := by decide +kernel
theorem dX11_makes_13 : decode cX11_makes 13 = .ok (.ireturn, 1) := by decide +kernel
theorem dX11_of_0 : decode cX11_of 0 = .ok (.aload_n 0, 1) := by decide +kernel
theorem dX11_of_1 : decode cX11_of 1 = .ok (.iload_n 1, 1) := by decide +kernel
theorem dX11_of_2 : decode cX11_of 2 = .ok (.invokevirtual 151, 3) := by decide +kernel
theorem dX11_of_5 : decode cX11_of 5 = .ok (.ifCond .eq 36, 3) := by decide +kernel
theorem dX11_of_8 : decode cX11_of 8 = .ok (.iload_n 2, 1) := by decide +kernel
theorem dX11_of_9 : decode cX11_of 9 = .ok (.iconst 0, 1) := by decide +kernel
theorem dX11_of_10 : decode cX11_of 10 = .ok (.aload_n 0, 1) := by decide +kernel
theorem dX11_of_11 : decode cX11_of 11 = .ok (.getfield 7, 3) := by decide +kernel
theorem dX11_of_14 : decode cX11_of 14 = .ok (.bipush 36, 2) := by decide +kernel
theorem dX11_of_16 : decode cX11_of 16 = .ok (.iaload, 1) := by decide +kernel
theorem dX11_of_17 : decode cX11_of 17 = .ok (.iconst 1, 1) := by decide +kernel
theorem dX11_of_18 : decode cX11_of 18 = .ok (.isub, 1) := by decide +kernel
theorem dX11_of_19 : decode cX11_of 19 = .ok (.invokestatic 113, 3) := by decide +kernel
theorem dX11_of_22 : decode cX11_of 22 = .ok (.ifCond .eq 19, 3) := by decide +kernel
theorem dX11_of_25 : decode cX11_of 25 = .ok (.aload_n 0, 1) := by decide +kernel
theorem dX11_of_26 : decode cX11_of 26 = .ok (.getfield 7, 3) := by decide +kernel
theorem dX11_of_29 : decode cX11_of 29 = .ok (.iconst 4, 1) := by decide +kernel
theorem dX11_of_30 : decode cX11_of 30 = .ok (.iload_n 1, 1) := by decide +kernel
theorem dX11_of_31 : decode cX11_of 31 = .ok (.imul, 1) := by decide +kernel
theorem dX11_of_32 : decode cX11_of 32 = .ok (.iload_n 2, 1) := by decide +kernel
theorem dX11_of_33 : decode cX11_of 33 = .ok (.iadd, 1) := by decide +kernel
theorem dX11_of_34 : decode cX11_of 34 = .ok (.iaload, 1) := by decide +kernel
theorem dX11_of_35 : decode cX11_of 35 = .ok (.bipush 10, 2) := by decide +kernel
theorem dX11_of_37 : decode cX11_of 37 = .ok (.iadd, 1) := by decide +kernel
theorem dX11_of_38 : decode cX11_of 38 = .ok (.goto 9, 3) := by decide +kernel
theorem dX11_of_41 : decode cX11_of 41 = .ok (.aload_n 0, 1) := by decide +kernel
theorem dX11_of_42 : decode cX11_of 42 = .ok (.bipush (-2), 2) := by decide +kernel
theorem dX11_of_44 : decode cX11_of 44 = .ok (.invokevirtual 89, 3) := by decide +kernel
theorem dX11_of_47 : decode cX11_of 47 = .ok (.ireturn, 1) := by decide +kernel
theorem dX11_rank_0 : decode cX11_rank 0 = .ok (.aload_n 0, 1) := by decide +kernel
theorem dX11_rank_1 : decode cX11_rank 1 = .ok (.iload_n 1, 1) := by decide +kernel
theorem dX11_rank_2 : decode cX11_rank 2 = .ok (.invokevirtual 193, 3) := by decide +kernel
theorem dX11_rank_5 : decode cX11_rank 5 = .ok (.ifCond .ne 10, 3) := by decide +kernel
theorem dX11_rank_8 : decode cX11_rank 8 = .ok (.aload_n 0, 1) := by decide +kernel
theorem dX11_rank_9 : decode cX11_rank 9 = .ok (.bipush (-2), 2) := by decide +kernel
theorem dX11_rank_11 : decode cX11_rank 11 = .ok (.invokevirtual 89, 3) := by decide +kernel
theorem dX11_rank_14 : decode cX11_rank 14 = .ok (.ireturn, 1) := by decide +kernel
theorem dX11_rank_15 : decode cX11_rank 15 = .ok (.aload_n 0, 1) := by decide +kernel
theorem dX11_rank_16 : decode cX11_rank 16 = .ok (.invokevirtual 187, 3) := by decide +kernel
theorem dX11_rank_19 : decode cX11_rank 19 = .ok (.aload_n 0, 1) := by decide +kernel
theorem dX11_rank_20 : decode cX11_rank 20 = .ok (.getfield 29, 3) := by decide +kernel
theorem dX11_rank_23 : decode cX11_rank 23 = .ok (.iload_n 1, 1) := by decide +kernel
theorem dX11_rank_24 : decode cX11_rank 24 = .ok (.iaload, 1) := by decide +kernel
theorem dX11_rank_25 : decode cX11_rank 25 = .ok (.ireturn, 1) := by decide +kernel
theorem dX11_closedOf_0 : decode cX11_closedOf 0 = .ok (.iload_n 1, 1) := by decide +kernel
theorem dX11_closedOf_1 : decode cX11_closedOf 1 = .ok (.istore_n 2, 1) := by decide +kernel
theorem dX11_closedOf_2 : decode cX11_closedOf 2 = .ok (.iconst 0, 1) := by decide +kernel
theorem dX11_closedOf_3 : decode cX11_closedOf 3 = .ok (.istore_n 3, 1) := by decide +kernel
theorem dX11_closedOf_4 : decode cX11_closedOf 4 = .ok (.iload_n 3, 1) := by decide +kernel
theorem dX11_closedOf_5 : decode cX11_closedOf 5 = .ok (.aload_n 0, 1) := by decide +kernel
theorem dX11_closedOf_6 : decode cX11_closedOf 6 = .ok (.getfield 7, 3) := by decide +kernel
theorem dX11_closedOf_9 : decode cX11_closedOf 9 = .ok (.bipush 37, 2) := by decide +kernel
theorem dX11_closedOf_11 : decode cX11_closedOf 11 = .ok (.iaload, 1) := by decide +kernel
theorem dX11_closedOf_12 : decode cX11_closedOf 12 = .ok (.if_icmp .ge 38, 3) := by decide +kernel
theorem dX11_closedOf_15 : decode cX11_closedOf 15 = .ok (.iload_n 2, 1) := by decide +kernel
theorem dX11_closedOf_16 : decode cX11_closedOf 16 = .ok (.aload_n 0, 1) := by decide +kernel
theorem dX11_closedOf_17 : decode cX11_closedOf 17 = .ok (.getfield 29, 3) := by decide +kernel
theorem dX11_closedOf_20 : decode cX11_closedOf 20 = .ok (.iload_n 1, 1) := by decide +kernel
theorem dX11_closedOf_21 : decode cX11_closedOf 21 = .ok (.iconst 1, 1) := by decide +kernel
theorem dX11_closedOf_22 : decode cX11_closedOf 22 = .ok (.iload_n 3, 1) := by decide +kernel
theorem dX11_closedOf_23 : decode cX11_closedOf 23 = .ok (.ishl, 1) := by decide +kernel
theorem dX11_closedOf_24 : decode cX11_closedOf 24 = .ok (.ior, 1) := by decide +kernel
theorem dX11_closedOf_25 : decode cX11_closedOf 25 = .ok (.iaload, 1) := by decide +kernel
theorem dX11_closedOf_26 : decode cX11_closedOf 26 = .ok (.aload_n 0, 1) := by decide +kernel
theorem dX11_closedOf_27 : decode cX11_closedOf 27 = .ok (.getfield 29, 3) := by decide +kernel
theorem dX11_closedOf_30 : decode cX11_closedOf 30 = .ok (.iload_n 1, 1) := by decide +kernel
theorem dX11_closedOf_31 : decode cX11_closedOf 31 = .ok (.iaload, 1) := by decide +kernel
theorem dX11_closedOf_32 : decode cX11_closedOf 32 = .ok (.if_icmp .ne 9, 3) := by decide +kernel
theorem dX11_closedOf_35 : decode cX11_closedOf 35 = .ok (.iconst 1, 1) := by decide +kernel
theorem dX11_closedOf_36 : decode cX11_closedOf 36 = .ok (.iload_n 3, 1) := by decide +kernel
theorem dX11_closedOf_37 : decode cX11_closedOf 37 = .ok (.ishl, 1) := by decide +kernel
theorem dX11_closedOf_38 : decode cX11_closedOf 38 = .ok (.goto 4, 3) := by decide +kernel
theorem dX11_closedOf_41 : decode cX11_closedOf 41 = .ok (.iconst 0, 1) := by decide +kernel
theorem dX11_closedOf_42 : decode cX11_closedOf 42 = .ok (.ior, 1) := by decide +kernel
theorem dX11_closedOf_43 : decode cX11_closedOf 43 = .ok (.istore_n 2, 1) := by decide +kernel
theorem dX11_closedOf_44 : decode cX11_closedOf 44 = .ok (.iinc 3 1, 3) := by decide +kernel
theorem dX11_closedOf_47 : decode cX11_closedOf 47 = .ok (.goto (-43), 3) := by decide +kernel
theorem dX11_closedOf_50 : decode cX11_closedOf 50 = .ok (.iload_n 2, 1) := by decide +kernel
theorem dX11_closedOf_51 : decode cX11_closedOf 51 = .ok (.ireturn, 1) := by decide +kernel
theorem dX11_closed_0 : decode cX11_closed 0 = .ok (.aload_n 0, 1) := by decide +kernel
theorem dX11_closed_1 : decode cX11_closed 1 = .ok (.iload_n 1, 1) := by decide +kernel
theorem dX11_closed_2 : decode cX11_closed 2 = .ok (.invokevirtual 193, 3) := by decide +kernel
theorem dX11_closed_5 : decode cX11_closed 5 = .ok (.ifCond .ne 10, 3) := by decide +kernel
theorem dX11_closed_8 : decode cX11_closed 8 = .ok (.aload_n 0, 1) := by decide +kernel
theorem dX11_closed_9 : decode cX11_closed 9 = .ok (.bipush (-2), 2) := by decide +kernel
theorem dX11_closed_11 : decode cX11_closed 11 = .ok (.invokevirtual 89, 3) := by decide +kernel
theorem dX11_closed_14 : decode cX11_closed 14 = .ok (.ireturn, 1) := by decide +kernel
theorem dX11_closed_15 : decode cX11_closed 15 = .ok (.aload_n 0, 1) := by decide +kernel
theorem dX11_closed_16 : decode cX11_closed 16 = .ok (.invokevirtual 187, 3) := by decide +kernel
theorem dX11_closed_19 : decode cX11_closed 19 = .ok (.aload_n 0, 1) := by decide +kernel
theorem dX11_closed_20 : decode cX11_closed 20 = .ok (.iload_n 1, 1) := by decide +kernel
theorem dX11_closed_21 : decode cX11_closed 21 = .ok (.invokevirtual 196, 3) := by decide +kernel
theorem dX11_closed_24 : decode cX11_closed 24 = .ok (.ireturn, 1) := by decide +kernel
theorem dX11_isFlat_0 : decode cX11_isFlat 0 = .ok (.aload_n 0, 1) := by decide +kernel
theorem dX11_isFlat_1 : decode cX11_isFlat 1 = .ok (.iload_n 1, 1) := by decide +kernel
theorem dX11_isFlat_2 : decode cX11_isFlat 2 = .ok (.invokevirtual 196, 3) := by decide +kernel
theorem dX11_isFlat_5 : decode cX11_isFlat 5 = .ok (.iload_n 1, 1) := by decide +kernel
theorem dX11_isFlat_6 : decode cX11_isFlat 6 = .ok (.if_icmp .ne 7, 3) := by decide +kernel
theorem dX11_isFlat_9 : decode cX11_isFlat 9 = .ok (.iconst 1, 1) := by decide +kernel
theorem dX11_isFlat_10 : decode cX11_isFlat 10 = .ok (.goto 4, 3) := by decide +kernel
theorem dX11_isFlat_13 : decode cX11_isFlat 13 = .ok (.iconst 0, 1) := by decide +kernel
theorem dX11_isFlat_14 : decode cX11_isFlat 14 = .ok (.ireturn, 1) := by decide +kernel
theorem dX11_flatOf_0 : decode cX11_flatOf 0 = .ok (.aload_n 0, 1) := by decide +kernel
theorem dX11_flatOf_1 : decode cX11_flatOf 1 = .ok (.invokevirtual 187, 3) := by decide +kernel
theorem dX11_flatOf_4 : decode cX11_flatOf 4 = .ok (.iconst 0, 1) := by decide +kernel
theorem dX11_flatOf_5 : decode cX11_flatOf 5 = .ok (.istore_n 3, 1) := by decide +kernel
theorem dX11_flatOf_6 : decode cX11_flatOf 6 = .ok (.iconst 0, 1) := by decide +kernel
theorem dX11_flatOf_7 : decode cX11_flatOf 7 = .ok (.istore 4, 2) := by decide +kernel
theorem dX11_flatOf_9 : decode cX11_flatOf 9 = .ok (.iload 4, 2) := by decide +kernel
theorem dX11_flatOf_11 : decode cX11_flatOf 11 = .ok (.aload_n 0, 1) := by decide +kernel
theorem dX11_flatOf_12 : decode cX11_flatOf 12 = .ok (.invokevirtual 109, 3) := by decide +kernel
theorem dX11_flatOf_15 : decode cX11_flatOf 15 = .ok (.if_icmp .gt 40, 3) := by decide +kernel
theorem dX11_flatOf_18 : decode cX11_flatOf 18 = .ok (.aload_n 0, 1) := by decide +kernel
theorem dX11_flatOf_19 : decode cX11_flatOf 19 = .ok (.getfield 29, 3) := by decide +kernel
theorem dX11_flatOf_22 : decode cX11_flatOf 22 = .ok (.iload 4, 2) := by decide +kernel
theorem dX11_flatOf_24 : decode cX11_flatOf 24 = .ok (.iaload, 1) := by decide +kernel
theorem dX11_flatOf_25 : decode cX11_flatOf 25 = .ok (.iload_n 1, 1) := by decide +kernel
theorem dX11_flatOf_26 : decode cX11_flatOf 26 = .ok (.if_icmp .ne 23, 3) := by decide +kernel
theorem dX11_flatOf_29 : decode cX11_flatOf 29 = .ok (.aload_n 0, 1) := by decide +kernel
theorem dX11_flatOf_30 : decode cX11_flatOf 30 = .ok (.iload 4, 2) := by decide +kernel
theorem dX11_flatOf_32 : decode cX11_flatOf 32 = .ok (.invokevirtual 199, 3) := by decide +kernel
theorem dX11_flatOf_35 : decode cX11_flatOf 35 = .ok (.ifCond .eq 14, 3) := by decide +kernel
theorem dX11_flatOf_38 : decode cX11_flatOf 38 = .ok (.iload_n 3, 1) := by decide +kernel
theorem dX11_flatOf_39 : decode cX11_flatOf 39 = .ok (.iload_n 2, 1) := by decide +kernel
theorem dX11_flatOf_40 : decode cX11_flatOf 40 = .ok (.if_icmp .ne 6, 3) := by decide +kernel
theorem dX11_flatOf_43 : decode cX11_flatOf 43 = .ok (.iload 4, 2) := by decide +kernel
theorem dX11_flatOf_45 : decode cX11_flatOf 45 = .ok (.ireturn, 1) := by decide +kernel
theorem dX11_flatOf_46 : decode cX11_flatOf 46 = .ok (.iinc 3 1, 3) := by decide +kernel
theorem dX11_flatOf_49 : decode cX11_flatOf 49 = .ok (.iinc 4 1, 3) := by decide +kernel
theorem dX11_flatOf_52 : decode cX11_flatOf 52 = .ok (.goto (-43), 3) := by decide +kernel
theorem dX11_flatOf_55 : decode cX11_flatOf 55 = .ok (.iload_n 2, 1) := by decide +kernel
theorem dX11_flatOf_56 : decode cX11_flatOf 56 = .ok (.iconst (-1), 1) := by decide +kernel
theorem dX11_flatOf_57 : decode cX11_flatOf 57 = .ok (.if_icmp .ne 7, 3) := by decide +kernel
theorem dX11_flatOf_60 : decode cX11_flatOf 60 = .ok (.iload_n 3, 1) := by decide +kernel
theorem dX11_flatOf_61 : decode cX11_flatOf 61 = .ok (.goto 5, 3) := by decide +kernel
theorem dX11_flatOf_64 : decode cX11_flatOf 64 = .ok (.bipush (-5), 2) := by decide +kernel
theorem dX11_flatOf_66 : decode cX11_flatOf 66 = .ok (.ireturn, 1) := by decide +kernel
theorem dX11_flats_0 : decode cX11_flats 0 = .ok (.iload_n 1, 1) := by decide +kernel
theorem dX11_flats_1 : decode cX11_flats 1 = .ok (.iconst 0, 1) := by decide +kernel
theorem dX11_flats_2 : decode cX11_flats 2 = .ok (.iconst 4, 1) := by decide +kernel
theorem dX11_flats_3 : decode cX11_flats 3 = .ok (.invokestatic 113, 3) := by decide +kernel
theorem dX11_flats_6 : decode cX11_flats 6 = .ok (.ifCond .eq 17, 3) := by decide +kernel
theorem dX11_flats_9 : decode cX11_flats 9 = .ok (.iload_n 2, 1) := by decide +kernel
theorem dX11_flats_10 : decode cX11_flats 10 = .ok (.iconst (-1), 1) := by decide +kernel
theorem dX11_flats_11 : decode cX11_flats 11 = .ok (.if_icmp .lt 12, 3) := by decide +kernel
theorem dX11_flats_14 : decode cX11_flats 14 = .ok (.aload_n 0, 1) := by decide +kernel
theorem dX11_flats_15 : decode cX11_flats 15 = .ok (.iload_n 1, 1) := by decide +kernel
theorem dX11_flats_16 : decode cX11_flats 16 = .ok (.iload_n 2, 1) := by decide +kernel
theorem dX11_flats_17 : decode cX11_flats 17 = .ok (.invokevirtual 202, 3) := by decide +kernel
theorem dX11_flats_20 : decode cX11_flats 20 = .ok (.goto 9, 3) := by decide +kernel
theorem dX11_flats_23 : decode cX11_flats 23 = .ok (.aload_n 0, 1) := by decide +kernel
theorem dX11_flats_24 : decode cX11_flats 24 = .ok (.bipush (-2), 2) := by decide +kernel
theorem dX11_flats_26 : decode cX11_flats 26 = .ok (.invokevirtual 89, 3) := by decide +kernel
theorem dX11_flats_29 : decode cX11_flats 29 = .ok (.ireturn, 1) := by decide +kernel
theorem dX11_sign_0 : decode cX11_sign 0 = .ok (.aload_n 0, 1) := by decide +kernel
theorem dX11_sign_1 : decode cX11_sign 1 = .ok (.iload_n 1, 1) := by decide +kernel
theorem dX11_sign_2 : decode cX11_sign 2 = .ok (.invokevirtual 193, 3) := by decide +kernel
theorem dX11_sign_5 : decode cX11_sign 5 = .ok (.ifCond .ne 10, 3) := by decide +kernel
theorem dX11_sign_8 : decode cX11_sign 8 = .ok (.aload_n 0, 1) := by decide +kernel
theorem dX11_sign_9 : decode cX11_sign 9 = .ok (.bipush (-2), 2) := by decide +kernel
theorem dX11_sign_11 : decode cX11_sign 11 = .ok (.invokevirtual 89, 3) := by decide +kernel
theorem dX11_sign_14 : decode cX11_sign 14 = .ok (.ireturn, 1) := by decide +kernel
theorem dX11_sign_15 : decode cX11_sign 15 = .ok (.aload_n 0, 1) := by decide +kernel
theorem dX11_sign_16 : decode cX11_sign 16 = .ok (.invokevirtual 187, 3) := by decide +kernel
theorem dX11_sign_19 : decode cX11_sign 19 = .ok (.aload_n 0, 1) := by decide +kernel
theorem dX11_sign_20 : decode cX11_sign 20 = .ok (.iload_n 1, 1) := by decide +kernel
theorem dX11_sign_21 : decode cX11_sign 21 = .ok (.invokevirtual 199, 3) := by decide +kernel
theorem dX11_sign_24 : decode cX11_sign 24 = .ok (.ifCond .ne 10, 3) := by decide +kernel
theorem dX11_sign_27 : decode cX11_sign 27 = .ok (.aload_n 0, 1) := by decide +kernel
theorem dX11_sign_28 : decode cX11_sign 28 = .ok (.bipush (-3), 2) := by decide +kernel
theorem dX11_sign_30 : decode cX11_sign 30 = .ok (.invokevirtual 89, 3) := by decide +kernel
theorem dX11_sign_33 : decode cX11_sign 33 = .ok (.ireturn, 1) := by decide +kernel
theorem dX11_sign_34 : decode cX11_sign 34 = .ok (.iconst 0, 1) := by decide +kernel
theorem dX11_sign_35 : decode cX11_sign 35 = .ok (.istore_n 2, 1) := by decide +kernel
theorem dX11_sign_36 : decode cX11_sign 36 = .ok (.iload_n 2, 1) := by decide +kernel
theorem dX11_sign_37 : decode cX11_sign 37 = .ok (.iload_n 1, 1) := by decide +kernel
theorem dX11_sign_38 : decode cX11_sign 38 = .ok (.if_icmp .gt 87, 3) := by decide +kernel
theorem dX11_sign_41 : decode cX11_sign 41 = .ok (.aload_n 0, 1) := by decide +kernel
theorem dX11_sign_42 : decode cX11_sign 42 = .ok (.getfield 54, 3) := by decide +kernel
theorem dX11_sign_45 : decode cX11_sign 45 = .ok (.iload_n 2, 1) := by decide +kernel
theorem dX11_sign_46 : decode cX11_sign 46 = .ok (.iconst 0, 1) := by decide +kernel
theorem dX11_sign_47 : decode cX11_sign 47 = .ok (.iastore, 1) := by decide +kernel
theorem dX11_sign_48 : decode cX11_sign 48 = .ok (.iload_n 2, 1) := by decide +kernel
theorem dX11_sign_49 : decode cX11_sign 49 = .ok (.iload_n 1, 1) := by decide +kernel
theorem dX11_sign_50 : decode cX11_sign 50 = .ok (.iconst (-1), 1) := by decide +kernel
theorem dX11_sign_51 : decode cX11_sign 51 = .ok (.ixor, 1) := by decide +kernel
theorem dX11_sign_52 : decode cX11_sign 52 = .ok (.iand, 1) := by decide +kernel
theorem dX11_sign_53 : decode cX11_sign 53 = .ok (.ifCond .ne 66, 3) := by decide +kernel
theorem dX11_sign_56 : decode cX11_sign 56 = .ok (.aload_n 0, 1) := by decide +kernel
theorem dX11_sign_57 : decode cX11_sign 57 = .ok (.iload_n 2, 1) := by decide +kernel
theorem dX11_sign_58 : decode cX11_sign 58 = .ok (.invokevirtual 199, 3) := by decide +kernel
theorem dX11_sign_61 : decode cX11_sign 61 = .ok (.ifCond .eq 58, 3) := by decide +kernel
theorem dX11_sign_64 : decode cX11_sign 64 = .ok (.aload_n 0, 1) := by decide +kernel
theorem dX11_sign_65 : decode cX11_sign 65 = .ok (.getfield 54, 3) := by decide +kernel
theorem dX11_sign_68 : decode cX11_sign 68 = .ok (.iload_n 2, 1) := by decide +kernel
theorem dX11_sign_69 : decode cX11_sign 69 = .ok (.iload_n 2, 1) := by decide +kernel
theorem dX11_sign_70 : decode cX11_sign 70 = .ok (.ifCond .ne 7, 3) := by decide +kernel
theorem dX11_sign_73 : decode cX11_sign 73 = .ok (.iconst 1, 1) := by decide +kernel
theorem dX11_sign_74 : decode cX11_sign 74 = .ok (.goto 4, 3) := by decide +kernel
theorem dX11_sign_77 : decode cX11_sign 77 = .ok (.iconst 0, 1) := by decide +kernel
theorem dX11_sign_78 : decode cX11_sign 78 = .ok (.iastore, 1) := by decide +kernel
theorem dX11_sign_79 : decode cX11_sign 79 = .ok (.iconst 0, 1) := by decide +kernel
theorem dX11_sign_80 : decode cX11_sign 80 = .ok (.istore_n 3, 1) := by decide +kernel
theorem dX11_sign_81 : decode cX11_sign 81 = .ok (.iload_n 3, 1) := by decide +kernel
theorem dX11_sign_82 : decode cX11_sign 82 = .ok (.iload_n 2, 1) := by decide +kernel
theorem dX11_sign_83 : decode cX11_sign 83 = .ok (.if_icmp .ge 36, 3) := by decide +kernel
theorem dX11_sign_86 : decode cX11_sign 86 = .ok (.aload_n 0, 1) := by decide +kernel
theorem dX11_sign_87 : decode cX11_sign 87 = .ok (.getfield 54, 3) := by decide +kernel
theorem dX11_sign_90 : decode cX11_sign 90 = .ok (.iload_n 2, 1) := by decide +kernel
theorem dX11_sign_91 : decode cX11_sign 91 = .ok (.dup2, 1) := by decide +kernel
theorem dX11_sign_92 : decode cX11_sign 92 = .ok (.iaload, 1) := by decide +kernel
theorem dX11_sign_93 : decode cX11_sign 93 = .ok (.iload_n 3, 1) := by decide +kernel
theorem dX11_sign_94 : decode cX11_sign 94 = .ok (.iload_n 2, 1) := by decide +kernel
theorem dX11_sign_95 : decode cX11_sign 95 = .ok (.iconst (-1), 1) := by decide +kernel
theorem dX11_sign_96 : decode cX11_sign 96 = .ok (.ixor, 1) := by decide +kernel
theorem dX11_sign_97 : decode cX11_sign 97 = .ok (.iand, 1) := by decide +kernel
theorem dX11_sign_98 : decode cX11_sign 98 = .ok (.ifCond .ne 12, 3) := by decide +kernel
theorem dX11_sign_101 : decode cX11_sign 101 = .ok (.aload_n 0, 1) := by decide +kernel
theorem dX11_sign_102 : decode cX11_sign 102 = .ok (.getfield 54, 3) := by decide +kernel
theorem dX11_sign_105 : decode cX11_sign 105 = .ok (.iload_n 3, 1) := by decide +kernel
theorem dX11_sign_106 : decode cX11_sign 106 = .ok (.iaload, 1) := by decide +kernel
theorem dX11_sign_107 : decode cX11_sign 107 = .ok (.goto 4, 3) := by decide +kernel
theorem dX11_sign_110 : decode cX11_sign 110 = .ok (.iconst 0, 1) := by decide +kernel
theorem dX11_sign_111 : decode cX11_sign 111 = .ok (.isub, 1) := by decide +kernel
theorem dX11_sign_112 : decode cX11_sign 112 = .ok (.iastore, 1) := by decide +kernel
theorem dX11_sign_113 : decode cX11_sign 113 = .ok (.iinc 3 1, 3) := by decide +kernel
theorem dX11_sign_116 : decode cX11_sign 116 = .ok (.goto (-35), 3) := by decide +kernel
theorem dX11_sign_119 : decode cX11_sign 119 = .ok (.iinc 2 1, 3) := by decide +kernel
theorem dX11_sign_122 : decode cX11_sign 122 = .ok (.goto (-86), 3) := by decide +kernel
theorem dX11_sign_125 : decode cX11_sign 125 = .ok (.aload_n 0, 1) := by decide +kernel
theorem dX11_sign_126 : decode cX11_sign 126 = .ok (.getfield 54, 3) := by decide +kernel
theorem dX11_sign_129 : decode cX11_sign 129 = .ok (.iload_n 1, 1) := by decide +kernel
theorem dX11_sign_130 : decode cX11_sign 130 = .ok (.iaload, 1) := by decide +kernel
theorem dX11_sign_131 : decode cX11_sign 131 = .ok (.sipush 1000, 3) := by decide +kernel
theorem dX11_sign_134 : decode cX11_sign 134 = .ok (.iadd, 1) := by decide +kernel
theorem dX11_sign_135 : decode cX11_sign 135 = .ok (.ireturn, 1) := by decide +kernel
theorem dX11_rings_0 : decode cX11_rings 0 = .ok (.iload_n 1, 1) := by decide +kernel
theorem dX11_rings_1 : decode cX11_rings 1 = .ok (.iconst (-1), 1) := by decide +kernel
theorem dX11_rings_2 : decode cX11_rings 2 = .ok (.if_icmp .ge 10, 3) := by decide +kernel
theorem dX11_rings_5 : decode cX11_rings 5 = .ok (.aload_n 0, 1) := by decide +kernel
theorem dX11_rings_6 : decode cX11_rings 6 = .ok (.bipush (-2), 2) := by decide +kernel
theorem dX11_rings_8 : decode cX11_rings 8 = .ok (.invokevirtual 89, 3) := by decide +kernel
theorem dX11_rings_11 : decode cX11_rings 11 = .ok (.ireturn, 1) := by decide +kernel
theorem dX11_rings_12 : decode cX11_rings 12 = .ok (.aload_n 0, 1) := by decide +kernel
theorem dX11_rings_13 : decode cX11_rings 13 = .ok (.invokevirtual 187, 3) := by decide +kernel
theorem dX11_rings_16 : decode cX11_rings 16 = .ok (.iload_n 1, 1) := by decide +kernel
theorem dX11_rings_17 : decode cX11_rings 17 = .ok (.iconst (-1), 1) := by decide +kernel
theorem dX11_rings_18 : decode cX11_rings 18 = .ok (.if_icmp .ne 10, 3) := by decide +kernel
theorem dX11_rings_21 : decode cX11_rings 21 = .ok (.aload_n 0, 1) := by decide +kernel
theorem dX11_rings_22 : decode cX11_rings 22 = .ok (.getfield 120, 3) := by decide +kernel
theorem dX11_rings_25 : decode cX11_rings 25 = .ok (.goto 22, 3) := by decide +kernel
theorem dX11_rings_28 : decode cX11_rings 28 = .ok (.iload_n 1, 1) := by decide +kernel
theorem dX11_rings_29 : decode cX11_rings 29 = .ok (.aload_n 0, 1) := by decide +kernel
theorem dX11_rings_30 : decode cX11_rings 30 = .ok (.getfield 120, 3) := by decide +kernel
theorem dX11_rings_33 : decode cX11_rings 33 = .ok (.if_icmp .ge 12, 3) := by decide +kernel
theorem dX11_rings_36 : decode cX11_rings 36 = .ok (.aload_n 0, 1) := by decide +kernel
theorem dX11_rings_37 : decode cX11_rings 37 = .ok (.getfield 36, 3) := by decide +kernel
theorem dX11_rings_40 : decode cX11_rings 40 = .ok (.iload_n 1, 1) := by decide +kernel
theorem dX11_rings_41 : decode cX11_rings 41 = .ok (.iaload, 1) := by decide +kernel
theorem dX11_rings_42 : decode cX11_rings 42 = .ok (.goto 5, 3) := by decide +kernel
theorem dX11_rings_45 : decode cX11_rings 45 = .ok (.bipush (-5), 2) := by decide +kernel
theorem dX11_rings_47 : decode cX11_rings 47 = .ok (.ireturn, 1) := by decide +kernel
theorem dX11_factor_0 : decode cX11_factor 0 = .ok (.iload_n 1, 1) := by decide +kernel
theorem dX11_factor_1 : decode cX11_factor 1 = .ok (.ifCond .lt 11, 3) := by decide +kernel
theorem dX11_factor_4 : decode cX11_factor 4 = .ok (.aload_n 0, 1) := by decide +kernel
theorem dX11_factor_5 : decode cX11_factor 5 = .ok (.iload_n 2, 1) := by decide +kernel
theorem dX11_factor_6 : decode cX11_factor 6 = .ok (.invokevirtual 151, 3) := by decide +kernel
theorem dX11_factor_9 : decode cX11_factor 9 = .ok (.ifCond .ne 10, 3) := by decide +kernel
theorem dX11_factor_12 : decode cX11_factor 12 = .ok (.aload_n 0, 1) := by decide +kernel
theorem dX11_factor_13 : decode cX11_factor 13 = .ok (.bipush (-2), 2) := by decide +kernel
theorem dX11_factor_15 : decode cX11_factor 15 = .ok (.invokevirtual 89, 3) := by decide +kernel
theorem dX11_factor_18 : decode cX11_factor 18 = .ok (.ireturn, 1) := by decide +kernel
theorem dX11_factor_19 : decode cX11_factor 19 = .ok (.aload_n 0, 1) := by decide +kernel
theorem dX11_factor_20 : decode cX11_factor 20 = .ok (.invokevirtual 187, 3) := by decide +kernel
theorem dX11_factor_23 : decode cX11_factor 23 = .ok (.iload_n 1, 1) := by decide +kernel
theorem dX11_factor_24 : decode cX11_factor 24 = .ok (.aload_n 0, 1) := by decide +kernel
theorem dX11_factor_25 : decode cX11_factor 25 = .ok (.getfield 120, 3) := by decide +kernel
theorem dX11_factor_28 : decode cX11_factor 28 = .ok (.if_icmp .lt 10, 3) := by decide +kernel
theorem dX11_factor_31 : decode cX11_factor 31 = .ok (.aload_n 0, 1) := by decide +kernel
theorem dX11_factor_32 : decode cX11_factor 32 = .ok (.bipush (-3), 2) := by decide +kernel
theorem dX11_factor_34 : decode cX11_factor 34 = .ok (.invokevirtual 89, 3) := by decide +kernel
theorem dX11_factor_37 : decode cX11_factor 37 = .ok (.ireturn, 1) := by decide +kernel
theorem dX11_factor_38 : decode cX11_factor 38 = .ok (.aload_n 0, 1) := by decide +kernel
theorem dX11_factor_39 : decode cX11_factor 39 = .ok (.aload_n 0, 1) := by decide +kernel
theorem dX11_factor_40 : decode cX11_factor 40 = .ok (.getfield 36, 3) := by decide +kernel
theorem dX11_factor_43 : decode cX11_factor 43 = .ok (.iload_n 1, 1) := by decide +kernel
theorem dX11_factor_44 : decode cX11_factor 44 = .ok (.iaload, 1) := by decide +kernel
theorem dX11_factor_45 : decode cX11_factor 45 = .ok (.invokevirtual 142, 3) := by decide +kernel
theorem dX11_factor_48 : decode cX11_factor 48 = .ok (.aload_n 0, 1) := by decide +kernel
theorem dX11_factor_49 : decode cX11_factor 49 = .ok (.getfield 42, 3) := by decide +kernel
theorem dX11_factor_52 : decode cX11_factor 52 = .ok (.iload_n 2, 1) := by decide +kernel
theorem dX11_factor_53 : decode cX11_factor 53 = .ok (.laload, 1) := by decide +kernel
theorem dX11_factor_54 : decode cX11_factor 54 = .ok (.l2i, 1) := by decide +kernel
theorem dX11_factor_55 : decode cX11_factor 55 = .ok (.sipush 10000, 3) := by decide +kernel
theorem dX11_factor_58 : decode cX11_factor 58 = .ok (.iadd, 1) := by decide +kernel
theorem dX11_factor_59 : decode cX11_factor 59 = .ok (.ireturn, 1) := by decide +kernel
theorem dX11_polynomialOf_0 : decode cX11_polynomialOf 0 = .ok (.aload_n 0, 1) := by decide +kernel
theorem dX11_polynomialOf_1 : decode cX11_polynomialOf 1 = .ok (.invokevirtual 187, 3) := by decide +kernel
theorem dX11_polynomialOf_4 : decode cX11_polynomialOf 4 = .ok (.iconst 0, 1) := by decide +kernel
theorem dX11_polynomialOf_5 : decode cX11_polynomialOf 5 = .ok (.istore_n 3, 1) := by decide +kernel
theorem dX11_polynomialOf_6 : decode cX11_polynomialOf 6 = .ok (.iconst 0, 1) := by decide +kernel
theorem dX11_polynomialOf_7 : decode cX11_polynomialOf 7 = .ok (.istore 4, 2) := by decide +kernel
theorem dX11_polynomialOf_9 : decode cX11_polynomialOf 9 = .ok (.iload 4, 2) := by decide +kernel
theorem dX11_polynomialOf_11 : decode cX11_polynomialOf 11 = .ok (.iload_n 1, 1) := by decide +kernel
theorem dX11_polynomialOf_12 : decode cX11_polynomialOf 12 = .ok (.if_icmp .gt 55, 3) := by decide +kernel
theorem dX11_polynomialOf_15 : decode cX11_polynomialOf 15 = .ok (.iload 4, 2) := by decide +kernel
theorem dX11_polynomialOf_17 : decode cX11_polynomialOf 17 = .ok (.iload_n 1, 1) := by decide +kernel
theorem dX11_polynomialOf_18 : decode cX11_polynomialOf 18 = .ok (.iconst (-1), 1) := by decide +kernel
theorem dX11_polynomialOf_19 : decode cX11_polynomialOf 19 = .ok (.ixor, 1) := by decide +kernel
theorem dX11_polynomialOf_20 : decode cX11_polynomialOf 20 = .ok (.iand, 1) := by decide +kernel
theorem dX11_polynomialOf_21 : decode cX11_polynomialOf 21 = .ok (.ifCond .ne 40, 3) := by decide +kernel
theorem dX11_polynomialOf_24 : decode cX11_polynomialOf 24 = .ok (.aload_n 0, 1) := by decide +kernel
theorem dX11_polynomialOf_25 : decode cX11_polynomialOf 25 = .ok (.getfield 29, 3) := by decide +kernel
theorem dX11_polynomialOf_28 : decode cX11_polynomialOf 28 = .ok (.iload 4, 2) := by decide +kernel
theorem dX11_polynomialOf_30 : decode cX11_polynomialOf 30 = .ok (.iaload, 1) := by decide +kernel
theorem dX11_polynomialOf_31 : decode cX11_polynomialOf 31 = .ok (.aload_n 0, 1) := by decide +kernel
theorem dX11_polynomialOf_32 : decode cX11_polynomialOf 32 = .ok (.getfield 7, 3) := by decide +kernel
theorem dX11_polynomialOf_35 : decode cX11_polynomialOf 35 = .ok (.bipush 36, 2) := by decide +kernel
theorem dX11_polynomialOf_37 : decode cX11_polynomialOf 37 = .ok (.iaload, 1) := by decide +kernel
theorem dX11_polynomialOf_38 : decode cX11_polynomialOf 38 = .ok (.iload_n 2, 1) := by decide +kernel
theorem dX11_polynomialOf_39 : decode cX11_polynomialOf 39 = .ok (.isub, 1) := by decide +kernel
theorem dX11_polynomialOf_40 : decode cX11_polynomialOf 40 = .ok (.if_icmp .ne 21, 3) := by decide +kernel
theorem dX11_polynomialOf_43 : decode cX11_polynomialOf 43 = .ok (.iload_n 3, 1) := by decide +kernel
theorem dX11_polynomialOf_44 : decode cX11_polynomialOf 44 = .ok (.iload 4, 2) := by decide +kernel
theorem dX11_polynomialOf_46 : decode cX11_polynomialOf 46 = .ok (.invokestatic 123, 3) := by decide +kernel
theorem dX11_polynomialOf_49 : decode cX11_polynomialOf 49 = .ok (.iconst 2, 1) := by decide +kernel
theorem dX11_polynomialOf_50 : decode cX11_polynomialOf 50 = .ok (.irem, 1) := by decide +kernel
theorem dX11_polynomialOf_51 : decode cX11_polynomialOf 51 = .ok (.ifCond .ne 7, 3) := by decide +kernel
theorem dX11_polynomialOf_54 : decode cX11_polynomialOf 54 = .ok (.iconst 1, 1) := by decide +kernel
theorem dX11_polynomialOf_55 : decode cX11_polynomialOf 55 = .ok (.goto 4, 3) := by decide +kernel
theorem dX11_polynomialOf_58 : decode cX11_polynomialOf 58 = .ok (.iconst (-1), 1) := by decide +kernel
theorem dX11_polynomialOf_59 : decode cX11_polynomialOf 59 = .ok (.iadd, 1) := by decide +kernel
theorem dX11_polynomialOf_60 : decode cX11_polynomialOf 60 = .ok (.istore_n 3, 1) := by decide +kernel
theorem dX11_polynomialOf_61 : decode cX11_polynomialOf 61 = .ok (.iinc 4 1, 3) := by decide +kernel
theorem dX11_polynomialOf_64 : decode cX11_polynomialOf 64 = .ok (.goto (-55), 3) := by decide +kernel
theorem dX11_polynomialOf_67 : decode cX11_polynomialOf 67 = .ok (.iload_n 3, 1) := by decide +kernel
theorem dX11_polynomialOf_68 : decode cX11_polynomialOf 68 = .ok (.ireturn, 1) := by decide +kernel
theorem dX11_polynomial_0 : decode cX11_polynomial 0 = .ok (.aload_n 0, 1) := by decide +kernel
theorem dX11_polynomial_1 : decode cX11_polynomial 1 = .ok (.iload_n 1, 1) := by decide +kernel
theorem dX11_polynomial_2 : decode cX11_polynomial 2 = .ok (.invokevirtual 193, 3) := by decide +kernel
theorem dX11_polynomial_5 : decode cX11_polynomial 5 = .ok (.ifCond .eq 25, 3) := by decide +kernel
theorem dX11_polynomial_8 : decode cX11_polynomial 8 = .ok (.iload_n 2, 1) := by decide +kernel
theorem dX11_polynomial_9 : decode cX11_polynomial 9 = .ok (.iconst 0, 1) := by decide +kernel
theorem dX11_polynomial_10 : decode cX11_polynomial 10 = .ok (.iconst 4, 1) := by decide +kernel
theorem dX11_polynomial_11 : decode cX11_polynomial 11 = .ok (.invokestatic 113, 3) := by decide +kernel
theorem dX11_polynomial_14 : decode cX11_polynomial 14 = .ok (.ifCond .eq 16, 3) := by decide +kernel
theorem dX11_polynomial_17 : decode cX11_polynomial 17 = .ok (.aload_n 0, 1) := by decide +kernel
theorem dX11_polynomial_18 : decode cX11_polynomial 18 = .ok (.iload_n 1, 1) := by decide +kernel
theorem dX11_polynomial_19 : decode cX11_polynomial 19 = .ok (.iload_n 2, 1) := by decide +kernel
theorem dX11_polynomial_20 : decode cX11_polynomial 20 = .ok (.invokevirtual 205, 3) := by decide +kernel
theorem dX11_polynomial_23 : decode cX11_polynomial 23 = .ok (.sipush 1000, 3) := by decide +kernel
theorem dX11_polynomial_26 : decode cX11_polynomial 26 = .ok (.iadd, 1) := by decide +kernel
theorem dX11_polynomial_27 : decode cX11_polynomial 27 = .ok (.goto 9, 3) := by decide +kernel
theorem dX11_polynomial_30 : decode cX11_polynomial 30 = .ok (.aload_n 0, 1) := by decide +kernel
theorem dX11_polynomial_31 : decode cX11_polynomial 31 = .ok (.bipush (-2), 2) := by decide +kernel
theorem dX11_polynomial_33 : decode cX11_polynomial 33 = .ok (.invokevirtual 89, 3) := by decide +kernel
theorem dX11_polynomial_36 : decode cX11_polynomial 36 = .ok (.ireturn, 1) := by decide +kernel
theorem dX11_value_0 : decode cX11_value 0 = .ok (.iload_n 1, 1) := by decide +kernel
theorem dX11_value_1 : decode cX11_value 1 = .ok (.bipush (-9), 2) := by decide +kernel
theorem dX11_value_3 : decode cX11_value 3 = .ok (.bipush 9, 2) := by decide +kernel
theorem dX11_value_5 : decode cX11_value 5 = .ok (.invokestatic 113, 3) := by decide +kernel
theorem dX11_value_8 : decode cX11_value 8 = .ok (.ifCond .ne 10, 3) := by decide +kernel
theorem dX11_value_11 : decode cX11_value 11 = .ok (.aload_n 0, 1) := by decide +kernel
theorem dX11_value_12 : decode cX11_value 12 = .ok (.bipush (-2), 2) := by decide +kernel
theorem dX11_value_14 : decode cX11_value 14 = .ok (.invokevirtual 89, 3) := by decide +kernel
theorem dX11_value_17 : decode cX11_value 17 = .ok (.ireturn, 1) := by decide +kernel
theorem dX11_value_18 : decode cX11_value 18 = .ok (.iconst 0, 1) := by decide +kernel
theorem dX11_value_19 : decode cX11_value 19 = .ok (.istore_n 2, 1) := by decide +kernel
theorem dX11_value_20 : decode cX11_value 20 = .ok (.iconst 4, 1) := by decide +kernel
theorem dX11_value_21 : decode cX11_value 21 = .ok (.istore_n 3, 1) := by decide +kernel
theorem dX11_value_22 : decode cX11_value 22 = .ok (.iload_n 3, 1) := by decide +kernel
theorem dX11_value_23 : decode cX11_value 23 = .ok (.ifCond .lt 23, 3) := by decide +kernel
theorem dX11_value_26 : decode cX11_value 26 = .ok (.iload_n 2, 1) := by decide +kernel
theorem dX11_value_27 : decode cX11_value 27 = .ok (.iload_n 1, 1) := by decide +kernel
theorem dX11_value_28 : decode cX11_value 28 = .ok (.imul, 1) := by decide +kernel
theorem dX11_value_29 : decode cX11_value 29 = .ok (.aload_n 0, 1) := by decide +kernel
theorem dX11_value_30 : decode cX11_value 30 = .ok (.aload_n 0, 1) := by decide +kernel
theorem dX11_value_31 : decode cX11_value 31 = .ok (.invokevirtual 109, 3) := by decide +kernel
theorem dX11_value_34 : decode cX11_value 34 = .ok (.iload_n 3, 1) := by decide +kernel
theorem dX11_value_35 : decode cX11_value 35 = .ok (.invokevirtual 205, 3) := by decide +kernel
theorem dX11_value_38 : decode cX11_value 38 = .ok (.iadd, 1) := by decide +kernel
theorem dX11_value_39 : decode cX11_value 39 = .ok (.istore_n 2, 1) := by decide +kernel
theorem dX11_value_40 : decode cX11_value 40 = .ok (.iinc 3 (-1), 3) := by decide +kernel
theorem dX11_value_43 : decode cX11_value 43 = .ok (.goto (-21), 3) := by decide +kernel
theorem dX11_value_46 : decode cX11_value 46 = .ok (.iload_n 2, 1) := by decide +kernel
theorem dX11_value_47 : decode cX11_value 47 = .ok (.ldc 208, 2) := by decide +kernel
theorem dX11_value_49 : decode cX11_value 49 = .ok (.iadd, 1) := by decide +kernel
theorem dX11_value_50 : decode cX11_value 50 = .ok (.ireturn, 1) := by decide +kernel
theorem dX11_within_0 : decode cX11_within 0 = .ok (.aload_n 0, 1) := by decide +kernel
theorem dX11_within_1 : decode cX11_within 1 = .ok (.iload_n 1, 1) := by decide +kernel
theorem dX11_within_2 : decode cX11_within 2 = .ok (.invokevirtual 151, 3) := by decide +kernel
theorem dX11_within_5 : decode cX11_within 5 = .ok (.ifCond .eq 12, 3) := by decide +kernel
theorem dX11_within_8 : decode cX11_within 8 = .ok (.iload_n 2, 1) := by decide +kernel
theorem dX11_within_9 : decode cX11_within 9 = .ok (.iconst 0, 1) := by decide +kernel
theorem dX11_within_10 : decode cX11_within 10 = .ok (.iconst 3, 1) := by decide +kernel
theorem dX11_within_11 : decode cX11_within 11 = .ok (.invokestatic 113, 3) := by decide +kernel
theorem dX11_within_14 : decode cX11_within 14 = .ok (.ifCond .ne 10, 3) := by decide +kernel
theorem dX11_within_17 : decode cX11_within 17 = .ok (.aload_n 0, 1) := by decide +kernel
theorem dX11_within_18 : decode cX11_within 18 = .ok (.bipush (-2), 2) := by decide +kernel
theorem dX11_within_20 : decode cX11_within 20 = .ok (.invokevirtual 89, 3) := by decide +kernel
theorem dX11_within_23 : decode cX11_within 23 = .ok (.ireturn, 1) := by decide +kernel
theorem dX11_within_24 : decode cX11_within 24 = .ok (.aload_n 0, 1) := by decide +kernel
theorem dX11_within_25 : decode cX11_within 25 = .ok (.aload_n 0, 1) := by decide +kernel
theorem dX11_within_26 : decode cX11_within 26 = .ok (.invokevirtual 109, 3) := by decide +kernel
theorem dX11_within_29 : decode cX11_within 29 = .ok (.iconst 1, 1) := by decide +kernel
theorem dX11_within_30 : decode cX11_within 30 = .ok (.iload_n 1, 1) := by decide +kernel
theorem dX11_within_31 : decode cX11_within 31 = .ok (.ishl, 1) := by decide +kernel
theorem dX11_within_32 : decode cX11_within 32 = .ok (.iconst (-1), 1) := by decide +kernel
theorem dX11_within_33 : decode cX11_within 33 = .ok (.ixor, 1) := by decide +kernel
theorem dX11_within_34 : decode cX11_within 34 = .ok (.iand, 1) := by decide +kernel
theorem dX11_within_35 : decode cX11_within 35 = .ok (.iload_n 2, 1) := by decide +kernel
theorem dX11_within_36 : decode cX11_within 36 = .ok (.invokevirtual 205, 3) := by decide +kernel
theorem dX11_within_39 : decode cX11_within 39 = .ok (.aload_n 0, 1) := by decide +kernel
theorem dX11_within_40 : decode cX11_within 40 = .ok (.aload_n 0, 1) := by decide +kernel
theorem dX11_within_41 : decode cX11_within 41 = .ok (.invokevirtual 109, 3) := by decide +kernel
theorem dX11_within_44 : decode cX11_within 44 = .ok (.iload_n 2, 1) := by decide +kernel
theorem dX11_within_45 : decode cX11_within 45 = .ok (.invokevirtual 205, 3) := by decide +kernel
theorem dX11_within_48 : decode cX11_within 48 = .ok (.isub, 1) := by decide +kernel
theorem dX11_within_49 : decode cX11_within 49 = .ok (.sipush 1000, 3) := by decide +kernel
theorem dX11_within_52 : decode cX11_within 52 = .ok (.iadd, 1) := by decide +kernel
theorem dX11_within_53 : decode cX11_within 53 = .ok (.ireturn, 1) := by decide +kernel
theorem dX11_isPart_0 : decode cX11_isPart 0 = .ok (.aload_n 0, 1) := by decide +kernel
theorem dX11_isPart_1 : decode cX11_isPart 1 = .ok (.invokevirtual 187, 3) := by decide +kernel
theorem dX11_isPart_4 : decode cX11_isPart 4 = .ok (.iconst 0, 1) := by decide +kernel
theorem dX11_isPart_5 : decode cX11_isPart 5 = .ok (.istore_n 2, 1) := by decide +kernel
theorem dX11_isPart_6 : decode cX11_isPart 6 = .ok (.iload_n 2, 1) := by decide +kernel
theorem dX11_isPart_7 : decode cX11_isPart 7 = .ok (.aload_n 0, 1) := by decide +kernel
theorem dX11_isPart_8 : decode cX11_isPart 8 = .ok (.getfield 120, 3) := by decide +kernel
theorem dX11_isPart_11 : decode cX11_isPart 11 = .ok (.if_icmp .ge 49, 3) := by decide +kernel
theorem dX11_isPart_14 : decode cX11_isPart 14 = .ok (.iload_n 1, 1) := by decide +kernel
theorem dX11_isPart_15 : decode cX11_isPart 15 = .ok (.aload_n 0, 1) := by decide +kernel
theorem dX11_isPart_16 : decode cX11_isPart 16 = .ok (.getfield 36, 3) := by decide +kernel
theorem dX11_isPart_19 : decode cX11_isPart 19 = .ok (.iload_n 2, 1) := by decide +kernel
