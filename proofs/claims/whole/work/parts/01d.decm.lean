theorem dX11_form_70 : decode cX11_form 70 = .ok (.if_icmp .ne 7, 3) := by decide +kernel
theorem dX11_form_73 : decode cX11_form 73 = .ok (.iconst 1, 1) := by decide +kernel
theorem dX11_form_74 : decode cX11_form 74 = .ok (.goto 4, 3) := by decide +kernel
theorem dX11_form_77 : decode cX11_form 77 = .ok (.iconst 0, 1) := by decide +kernel
theorem dX11_form_78 : decode cX11_form 78 = .ok (.iastore, 1) := by decide +kernel
theorem dX11_form_79 : decode cX11_form 79 = .ok (.iinc 4 1, 3) := by decide +kernel
theorem dX11_form_82 : decode cX11_form 82 = .ok (.goto (-29), 3) := by decide +kernel
theorem dX11_form_85 : decode cX11_form 85 = .ok (.iload_n 1, 1) := by decide +kernel
theorem dX11_form_86 : decode cX11_form 86 = .ok (.istore 4, 2) := by decide +kernel
theorem dX11_form_88 : decode cX11_form 88 = .ok (.iload 4, 2) := by decide +kernel
theorem dX11_form_90 : decode cX11_form 90 = .ok (.ifCond .lt 77, 3) := by decide +kernel
theorem dX11_form_93 : decode cX11_form 93 = .ok (.aload_n 0, 1) := by decide +kernel
theorem dX11_form_94 : decode cX11_form 94 = .ok (.getfield 73, 3) := by decide +kernel
theorem dX11_form_97 : decode cX11_form 97 = .ok (.iload 4, 2) := by decide +kernel
theorem dX11_form_99 : decode cX11_form 99 = .ok (.iaload, 1) := by decide +kernel
theorem dX11_form_100 : decode cX11_form 100 = .ok (.ifCond .eq 20, 3) := by decide +kernel
theorem dX11_form_103 : decode cX11_form 103 = .ok (.aload_n 0, 1) := by decide +kernel
theorem dX11_form_104 : decode cX11_form 104 = .ok (.iload 4, 2) := by decide +kernel
theorem dX11_form_106 : decode cX11_form 106 = .ok (.invokevirtual 133, 3) := by decide +kernel
theorem dX11_form_109 : decode cX11_form 109 = .ok (.ifCond .eq 11, 3) := by decide +kernel
theorem dX11_form_112 : decode cX11_form 112 = .ok (.aload_n 0, 1) := by decide +kernel
theorem dX11_form_113 : decode cX11_form 113 = .ok (.getfield 73, 3) := by decide +kernel
theorem dX11_form_116 : decode cX11_form 116 = .ok (.iload 4, 2) := by decide +kernel
theorem dX11_form_118 : decode cX11_form 118 = .ok (.iconst 0, 1) := by decide +kernel
theorem dX11_form_119 : decode cX11_form 119 = .ok (.iastore, 1) := by decide +kernel
theorem dX11_form_120 : decode cX11_form 120 = .ok (.aload_n 0, 1) := by decide +kernel
theorem dX11_form_121 : decode cX11_form 121 = .ok (.getfield 73, 3) := by decide +kernel
theorem dX11_form_124 : decode cX11_form 124 = .ok (.iload 4, 2) := by decide +kernel
theorem dX11_form_126 : decode cX11_form 126 = .ok (.iaload, 1) := by decide +kernel
theorem dX11_form_127 : decode cX11_form 127 = .ok (.ifCond .ne 7, 3) := by decide +kernel
theorem dX11_form_130 : decode cX11_form 130 = .ok (.iconst (-1), 1) := by decide +kernel
theorem dX11_form_131 : decode cX11_form 131 = .ok (.goto 9, 3) := by decide +kernel
theorem dX11_form_134 : decode cX11_form 134 = .ok (.aload_n 0, 1) := by decide +kernel
theorem dX11_form_135 : decode cX11_form 135 = .ok (.iload 4, 2) := by decide +kernel
theorem dX11_form_137 : decode cX11_form 137 = .ok (.invokevirtual 231, 3) := by decide +kernel
theorem dX11_form_140 : decode cX11_form 140 = .ok (.istore 5, 2) := by decide +kernel
theorem dX11_form_142 : decode cX11_form 142 = .ok (.iload 5, 2) := by decide +kernel
theorem dX11_form_144 : decode cX11_form 144 = .ok (.iconst (-1), 1) := by decide +kernel
theorem dX11_form_145 : decode cX11_form 145 = .ok (.if_icmp .eq 16, 3) := by decide +kernel
theorem dX11_form_148 : decode cX11_form 148 = .ok (.aload_n 0, 1) := by decide +kernel
theorem dX11_form_149 : decode cX11_form 149 = .ok (.iload 4, 2) := by decide +kernel
theorem dX11_form_151 : decode cX11_form 151 = .ok (.aload_n 0, 1) := by decide +kernel
theorem dX11_form_152 : decode cX11_form 152 = .ok (.getfield 36, 3) := by decide +kernel
theorem dX11_form_155 : decode cX11_form 155 = .ok (.iload 5, 2) := by decide +kernel
theorem dX11_form_157 : decode cX11_form 157 = .ok (.iaload, 1) := by decide +kernel
theorem dX11_form_158 : decode cX11_form 158 = .ok (.invokevirtual 240, 3) := by decide +kernel
theorem dX11_form_161 : decode cX11_form 161 = .ok (.iinc 4 (-1), 3) := by decide +kernel
theorem dX11_form_164 : decode cX11_form 164 = .ok (.goto (-76), 3) := by decide +kernel
theorem dX11_form_167 : decode cX11_form 167 = .ok (.aload_n 0, 1) := by decide +kernel
theorem dX11_form_168 : decode cX11_form 168 = .ok (.getfield 73, 3) := by decide +kernel
theorem dX11_form_171 : decode cX11_form 171 = .ok (.iload_n 3, 1) := by decide +kernel
theorem dX11_form_172 : decode cX11_form 172 = .ok (.iaload, 1) := by decide +kernel
theorem dX11_form_173 : decode cX11_form 173 = .ok (.sipush 1000, 3) := by decide +kernel
theorem dX11_form_176 : decode cX11_form 176 = .ok (.iadd, 1) := by decide +kernel
theorem dX11_form_177 : decode cX11_form 177 = .ok (.ireturn, 1) := by decide +kernel
theorem dX11_spread_0 : decode cX11_spread 0 = .ok (.iload_n 2, 1) := by decide +kernel
theorem dX11_spread_1 : decode cX11_spread 1 = .ok (.iload_n 2, 1) := by decide +kernel
theorem dX11_spread_2 : decode cX11_spread 2 = .ok (.iconst 1, 1) := by decide +kernel
theorem dX11_spread_3 : decode cX11_spread 3 = .ok (.isub, 1) := by decide +kernel
theorem dX11_spread_4 : decode cX11_spread 4 = .ok (.iand, 1) := by decide +kernel
theorem dX11_spread_5 : decode cX11_spread 5 = .ok (.istore_n 3, 1) := by decide +kernel
theorem dX11_spread_6 : decode cX11_spread 6 = .ok (.iload_n 2, 1) := by decide +kernel
theorem dX11_spread_7 : decode cX11_spread 7 = .ok (.iload_n 3, 1) := by decide +kernel
theorem dX11_spread_8 : decode cX11_spread 8 = .ok (.ixor, 1) := by decide +kernel
theorem dX11_spread_9 : decode cX11_spread 9 = .ok (.istore 4, 2) := by decide +kernel
theorem dX11_spread_11 : decode cX11_spread 11 = .ok (.iload_n 1, 1) := by decide +kernel
theorem dX11_spread_12 : decode cX11_spread 12 = .ok (.iload_n 3, 1) := by decide +kernel
theorem dX11_spread_13 : decode cX11_spread 13 = .ok (.iconst (-1), 1) := by decide +kernel
theorem dX11_spread_14 : decode cX11_spread 14 = .ok (.ixor, 1) := by decide +kernel
theorem dX11_spread_15 : decode cX11_spread 15 = .ok (.iand, 1) := by decide +kernel
theorem dX11_spread_16 : decode cX11_spread 16 = .ok (.istore 5, 2) := by decide +kernel
theorem dX11_spread_18 : decode cX11_spread 18 = .ok (.aload_n 0, 1) := by decide +kernel
theorem dX11_spread_19 : decode cX11_spread 19 = .ok (.getfield 73, 3) := by decide +kernel
theorem dX11_spread_22 : decode cX11_spread 22 = .ok (.iload_n 1, 1) := by decide +kernel
theorem dX11_spread_23 : decode cX11_spread 23 = .ok (.iaload, 1) := by decide +kernel
theorem dX11_spread_24 : decode cX11_spread 24 = .ok (.iload_n 3, 1) := by decide +kernel
theorem dX11_spread_25 : decode cX11_spread 25 = .ok (.iload 5, 2) := by decide +kernel
theorem dX11_spread_27 : decode cX11_spread 27 = .ok (.invokestatic 243, 3) := by decide +kernel
theorem dX11_spread_30 : decode cX11_spread 30 = .ok (.imul, 1) := by decide +kernel
theorem dX11_spread_31 : decode cX11_spread 31 = .ok (.istore 6, 2) := by decide +kernel
theorem dX11_spread_33 : decode cX11_spread 33 = .ok (.aload_n 0, 1) := by decide +kernel
theorem dX11_spread_34 : decode cX11_spread 34 = .ok (.getfield 73, 3) := by decide +kernel
theorem dX11_spread_37 : decode cX11_spread 37 = .ok (.iload_n 1, 1) := by decide +kernel
theorem dX11_spread_38 : decode cX11_spread 38 = .ok (.iconst 0, 1) := by decide +kernel
theorem dX11_spread_39 : decode cX11_spread 39 = .ok (.iastore, 1) := by decide +kernel
theorem dX11_spread_40 : decode cX11_spread 40 = .ok (.iconst 1, 1) := by decide +kernel
theorem dX11_spread_41 : decode cX11_spread 41 = .ok (.istore 7, 2) := by decide +kernel
theorem dX11_spread_43 : decode cX11_spread 43 = .ok (.iconst 0, 1) := by decide +kernel
theorem dX11_spread_44 : decode cX11_spread 44 = .ok (.istore 8, 2) := by decide +kernel
theorem dX11_spread_46 : decode cX11_spread 46 = .ok (.iload 8, 2) := by decide +kernel
theorem dX11_spread_48 : decode cX11_spread 48 = .ok (.bipush 9, 2) := by decide +kernel
theorem dX11_spread_50 : decode cX11_spread 50 = .ok (.if_icmp .ge 59, 3) := by decide +kernel
theorem dX11_spread_53 : decode cX11_spread 53 = .ok (.iload_n 3, 1) := by decide +kernel
theorem dX11_spread_54 : decode cX11_spread 54 = .ok (.iload 8, 2) := by decide +kernel
theorem dX11_spread_56 : decode cX11_spread 56 = .ok (.invokestatic 97, 3) := by decide +kernel
theorem dX11_spread_59 : decode cX11_spread 59 = .ok (.ifCond .eq 44, 3) := by decide +kernel
theorem dX11_spread_62 : decode cX11_spread 62 = .ok (.iload_n 2, 1) := by decide +kernel
theorem dX11_spread_63 : decode cX11_spread 63 = .ok (.iconst 1, 1) := by decide +kernel
theorem dX11_spread_64 : decode cX11_spread 64 = .ok (.iload 8, 2) := by decide +kernel
theorem dX11_spread_66 : decode cX11_spread 66 = .ok (.ishl, 1) := by decide +kernel
theorem dX11_spread_67 : decode cX11_spread 67 = .ok (.iconst (-1), 1) := by decide +kernel
theorem dX11_spread_68 : decode cX11_spread 68 = .ok (.ixor, 1) := by decide +kernel
theorem dX11_spread_69 : decode cX11_spread 69 = .ok (.iand, 1) := by decide +kernel
theorem dX11_spread_70 : decode cX11_spread 70 = .ok (.istore 9, 2) := by decide +kernel
theorem dX11_spread_72 : decode cX11_spread 72 = .ok (.aload_n 0, 1) := by decide +kernel
theorem dX11_spread_73 : decode cX11_spread 73 = .ok (.getfield 73, 3) := by decide +kernel
theorem dX11_spread_76 : decode cX11_spread 76 = .ok (.iload 9, 2) := by decide +kernel
theorem dX11_spread_78 : decode cX11_spread 78 = .ok (.iload 5, 2) := by decide +kernel
theorem dX11_spread_80 : decode cX11_spread 80 = .ok (.ior, 1) := by decide +kernel
theorem dX11_spread_81 : decode cX11_spread 81 = .ok (.dup2, 1) := by decide +kernel
theorem dX11_spread_82 : decode cX11_spread 82 = .ok (.iaload, 1) := by decide +kernel
theorem dX11_spread_83 : decode cX11_spread 83 = .ok (.iload 6, 2) := by decide +kernel
theorem dX11_spread_85 : decode cX11_spread 85 = .ok (.iload 7, 2) := by decide +kernel
theorem dX11_spread_87 : decode cX11_spread 87 = .ok (.imul, 1) := by decide +kernel
theorem dX11_spread_88 : decode cX11_spread 88 = .ok (.iload 9, 2) := by decide +kernel
theorem dX11_spread_90 : decode cX11_spread 90 = .ok (.iload 5, 2) := by decide +kernel
theorem dX11_spread_92 : decode cX11_spread 92 = .ok (.invokestatic 243, 3) := by decide +kernel
theorem dX11_spread_95 : decode cX11_spread 95 = .ok (.imul, 1) := by decide +kernel
theorem dX11_spread_96 : decode cX11_spread 96 = .ok (.iadd, 1) := by decide +kernel
theorem dX11_spread_97 : decode cX11_spread 97 = .ok (.iastore, 1) := by decide +kernel
theorem dX11_spread_98 : decode cX11_spread 98 = .ok (.iload 7, 2) := by decide +kernel
theorem dX11_spread_100 : decode cX11_spread 100 = .ok (.ineg, 1) := by decide +kernel
theorem dX11_spread_101 : decode cX11_spread 101 = .ok (.istore 7, 2) := by decide +kernel
theorem dX11_spread_103 : decode cX11_spread 103 = .ok (.iinc 8 1, 3) := by decide +kernel
theorem dX11_spread_106 : decode cX11_spread 106 = .ok (.goto (-60), 3) := by decide +kernel
theorem dX11_spread_109 : decode cX11_spread 109 = .ok (.return_, 1) := by decide +kernel
theorem dX11_type_0 : decode cX11_type 0 = .ok (.iload_n 1, 1) := by decide +kernel
theorem dX11_type_1 : decode cX11_type 1 = .ok (.iconst 0, 1) := by decide +kernel
theorem dX11_type_2 : decode cX11_type 2 = .ok (.bipush 127, 2) := by decide +kernel
theorem dX11_type_4 : decode cX11_type 4 = .ok (.invokestatic 113, 3) := by decide +kernel
theorem dX11_type_7 : decode cX11_type 7 = .ok (.ifCond .ne 10, 3) := by decide +kernel
theorem dX11_type_10 : decode cX11_type 10 = .ok (.aload_n 0, 1) := by decide +kernel
theorem dX11_type_11 : decode cX11_type 11 = .ok (.bipush (-2), 2) := by decide +kernel
theorem dX11_type_13 : decode cX11_type 13 = .ok (.invokevirtual 89, 3) := by decide +kernel
theorem dX11_type_16 : decode cX11_type 16 = .ok (.ireturn, 1) := by decide +kernel
theorem dX11_type_17 : decode cX11_type 17 = .ok (.aload_n 0, 1) := by decide +kernel
theorem dX11_type_18 : decode cX11_type 18 = .ok (.getfield 246, 3) := by decide +kernel
theorem dX11_type_21 : decode cX11_type 21 = .ok (.bipush 100, 2) := by decide +kernel
theorem dX11_type_23 : decode cX11_type 23 = .ok (.if_icmp .ne 10, 3) := by decide +kernel
theorem dX11_type_26 : decode cX11_type 26 = .ok (.aload_n 0, 1) := by decide +kernel
theorem dX11_type_27 : decode cX11_type 27 = .ok (.bipush (-4), 2) := by decide +kernel
theorem dX11_type_29 : decode cX11_type 29 = .ok (.invokevirtual 89, 3) := by decide +kernel
theorem dX11_type_32 : decode cX11_type 32 = .ok (.ireturn, 1) := by decide +kernel
theorem dX11_type_33 : decode cX11_type 33 = .ok (.aload_n 0, 1) := by decide +kernel
theorem dX11_type_34 : decode cX11_type 34 = .ok (.getfield 22, 3) := by decide +kernel
theorem dX11_type_37 : decode cX11_type 37 = .ok (.aload_n 0, 1) := by decide +kernel
theorem dX11_type_38 : decode cX11_type 38 = .ok (.getfield 246, 3) := by decide +kernel
theorem dX11_type_41 : decode cX11_type 41 = .ok (.iload_n 1, 1) := by decide +kernel
theorem dX11_type_42 : decode cX11_type 42 = .ok (.iastore, 1) := by decide +kernel
theorem dX11_type_43 : decode cX11_type 43 = .ok (.aload_n 0, 1) := by decide +kernel
theorem dX11_type_44 : decode cX11_type 44 = .ok (.dup, 1) := by decide +kernel
theorem dX11_type_45 : decode cX11_type 45 = .ok (.getfield 246, 3) := by decide +kernel
theorem dX11_type_48 : decode cX11_type 48 = .ok (.iconst 1, 1) := by decide +kernel
theorem dX11_type_49 : decode cX11_type 49 = .ok (.iadd, 1) := by decide +kernel
theorem dX11_type_50 : decode cX11_type 50 = .ok (.putfield 246, 3) := by decide +kernel
theorem dX11_type_53 : decode cX11_type 53 = .ok (.aload_n 0, 1) := by decide +kernel
theorem dX11_type_54 : decode cX11_type 54 = .ok (.getfield 246, 3) := by decide +kernel
theorem dX11_type_57 : decode cX11_type 57 = .ok (.ireturn, 1) := by decide +kernel
theorem dX11_clear_0 : decode cX11_clear 0 = .ok (.aload_n 0, 1) := by decide +kernel
theorem dX11_clear_1 : decode cX11_clear 1 = .ok (.getfield 246, 3) := by decide +kernel
theorem dX11_clear_4 : decode cX11_clear 4 = .ok (.istore_n 1, 1) := by decide +kernel
theorem dX11_clear_5 : decode cX11_clear 5 = .ok (.aload_n 0, 1) := by decide +kernel
theorem dX11_clear_6 : decode cX11_clear 6 = .ok (.iconst 0, 1) := by decide +kernel
theorem dX11_clear_7 : decode cX11_clear 7 = .ok (.putfield 246, 3) := by decide +kernel
theorem dX11_clear_10 : decode cX11_clear 10 = .ok (.iload_n 1, 1) := by decide +kernel
theorem dX11_clear_11 : decode cX11_clear 11 = .ok (.ireturn, 1) := by decide +kernel
theorem dX11_here_0 : decode cX11_here 0 = .ok (.aload_n 0, 1) := by decide +kernel
theorem dX11_here_1 : decode cX11_here 1 = .ok (.getfield 249, 3) := by decide +kernel
theorem dX11_here_4 : decode cX11_here 4 = .ok (.aload_n 0, 1) := by decide +kernel
theorem dX11_here_5 : decode cX11_here 5 = .ok (.getfield 246, 3) := by decide +kernel
theorem dX11_here_8 : decode cX11_here 8 = .ok (.if_icmp .ge 30, 3) := by decide +kernel
theorem dX11_here_11 : decode cX11_here 11 = .ok (.aload_n 0, 1) := by decide +kernel
theorem dX11_here_12 : decode cX11_here 12 = .ok (.getfield 22, 3) := by decide +kernel
theorem dX11_here_15 : decode cX11_here 15 = .ok (.aload_n 0, 1) := by decide +kernel
theorem dX11_here_16 : decode cX11_here 16 = .ok (.getfield 249, 3) := by decide +kernel
theorem dX11_here_19 : decode cX11_here 19 = .ok (.iaload, 1) := by decide +kernel
theorem dX11_here_20 : decode cX11_here 20 = .ok (.bipush 32, 2) := by decide +kernel
theorem dX11_here_22 : decode cX11_here 22 = .ok (.if_icmp .ne 16, 3) := by decide +kernel
theorem dX11_here_25 : decode cX11_here 25 = .ok (.aload_n 0, 1) := by decide +kernel
theorem dX11_here_26 : decode cX11_here 26 = .ok (.dup, 1) := by decide +kernel
theorem dX11_here_27 : decode cX11_here 27 = .ok (.getfield 249, 3) := by decide +kernel
theorem dX11_here_30 : decode cX11_here 30 = .ok (.iconst 1, 1) := by decide +kernel
theorem dX11_here_31 : decode cX11_here 31 = .ok (.iadd, 1) := by decide +kernel
theorem dX11_here_32 : decode cX11_here 32 = .ok (.putfield 249, 3) := by decide +kernel
theorem dX11_here_35 : decode cX11_here 35 = .ok (.goto (-35), 3) := by decide +kernel
theorem dX11_here_38 : decode cX11_here 38 = .ok (.aload_n 0, 1) := by decide +kernel
theorem dX11_here_39 : decode cX11_here 39 = .ok (.getfield 249, 3) := by decide +kernel
theorem dX11_here_42 : decode cX11_here 42 = .ok (.aload_n 0, 1) := by decide +kernel
theorem dX11_here_43 : decode cX11_here 43 = .ok (.getfield 246, 3) := by decide +kernel
theorem dX11_here_46 : decode cX11_here 46 = .ok (.if_icmp .ge 15, 3) := by decide +kernel
theorem dX11_here_49 : decode cX11_here 49 = .ok (.aload_n 0, 1) := by decide +kernel
theorem dX11_here_50 : decode cX11_here 50 = .ok (.getfield 22, 3) := by decide +kernel
theorem dX11_here_53 : decode cX11_here 53 = .ok (.aload_n 0, 1) := by decide +kernel
theorem dX11_here_54 : decode cX11_here 54 = .ok (.getfield 249, 3) := by decide +kernel
theorem dX11_here_57 : decode cX11_here 57 = .ok (.iaload, 1) := by decide +kernel
theorem dX11_here_58 : decode cX11_here 58 = .ok (.goto 4, 3) := by decide +kernel
theorem dX11_here_61 : decode cX11_here 61 = .ok (.iconst (-1), 1) := by decide +kernel
theorem dX11_here_62 : decode cX11_here 62 = .ok (.ireturn, 1) := by decide +kernel
theorem dX11_must_0 : decode cX11_must 0 = .ok (.aload_n 0, 1) := by decide +kernel
theorem dX11_must_1 : decode cX11_must 1 = .ok (.getfield 252, 3) := by decide +kernel
theorem dX11_must_4 : decode cX11_must 4 = .ok (.iconst (-1), 1) := by decide +kernel
theorem dX11_must_5 : decode cX11_must 5 = .ok (.if_icmp .ne 15, 3) := by decide +kernel
theorem dX11_must_8 : decode cX11_must 8 = .ok (.iload_n 1, 1) := by decide +kernel
theorem dX11_must_9 : decode cX11_must 9 = .ok (.ifCond .ne 11, 3) := by decide +kernel
theorem dX11_must_12 : decode cX11_must 12 = .ok (.aload_n 0, 1) := by decide +kernel
theorem dX11_must_13 : decode cX11_must 13 = .ok (.aload_n 0, 1) := by decide +kernel
theorem dX11_must_14 : decode cX11_must 14 = .ok (.getfield 249, 3) := by decide +kernel
theorem dX11_must_17 : decode cX11_must 17 = .ok (.putfield 252, 3) := by decide +kernel
theorem dX11_must_20 : decode cX11_must 20 = .ok (.return_, 1) := by decide +kernel
theorem dX11_figure_0 : decode cX11_figure 0 = .ok (.aload_n 0, 1) := by decide +kernel
theorem dX11_figure_1 : decode cX11_figure 1 = .ok (.getfield 249, 3) := by decide +kernel
theorem dX11_figure_4 : decode cX11_figure 4 = .ok (.aload_n 0, 1) := by decide +kernel
theorem dX11_figure_5 : decode cX11_figure 5 = .ok (.getfield 246, 3) := by decide +kernel
theorem dX11_figure_8 : decode cX11_figure 8 = .ok (.if_icmp .ge 18, 3) := by decide +kernel
theorem dX11_figure_11 : decode cX11_figure 11 = .ok (.aload_n 0, 1) := by decide +kernel
theorem dX11_figure_12 : decode cX11_figure 12 = .ok (.getfield 22, 3) := by decide +kernel
theorem dX11_figure_15 : decode cX11_figure 15 = .ok (.aload_n 0, 1) := by decide +kernel
theorem dX11_figure_16 : decode cX11_figure 16 = .ok (.getfield 249, 3) := by decide +kernel
theorem dX11_figure_19 : decode cX11_figure 19 = .ok (.iaload, 1) := by decide +kernel
theorem dX11_figure_20 : decode cX11_figure 20 = .ok (.bipush 48, 2) := by decide +kernel
theorem dX11_figure_22 : decode cX11_figure 22 = .ok (.isub, 1) := by decide +kernel
theorem dX11_figure_23 : decode cX11_figure 23 = .ok (.goto 4, 3) := by decide +kernel
theorem dX11_figure_26 : decode cX11_figure 26 = .ok (.iconst (-1), 1) := by decide +kernel
theorem dX11_figure_27 : decode cX11_figure 27 = .ok (.istore_n 3, 1) := by decide +kernel
theorem dX11_figure_28 : decode cX11_figure 28 = .ok (.aload_n 0, 1) := by decide +kernel
theorem dX11_figure_29 : decode cX11_figure 29 = .ok (.iload_n 3, 1) := by decide +kernel
theorem dX11_figure_30 : decode cX11_figure 30 = .ok (.iload_n 1, 1) := by decide +kernel
theorem dX11_figure_31 : decode cX11_figure 31 = .ok (.iload_n 2, 1) := by decide +kernel
theorem dX11_figure_32 : decode cX11_figure 32 = .ok (.invokestatic 113, 3) := by decide +kernel
theorem dX11_figure_35 : decode cX11_figure 35 = .ok (.invokevirtual 255, 3) := by decide +kernel
theorem dX11_figure_38 : decode cX11_figure 38 = .ok (.aload_n 0, 1) := by decide +kernel
theorem dX11_figure_39 : decode cX11_figure 39 = .ok (.dup, 1) := by decide +kernel
theorem dX11_figure_40 : decode cX11_figure 40 = .ok (.getfield 249, 3) := by decide +kernel
theorem dX11_figure_43 : decode cX11_figure 43 = .ok (.aload_n 0, 1) := by decide +kernel
theorem dX11_figure_44 : decode cX11_figure 44 = .ok (.getfield 252, 3) := by decide +kernel
theorem dX11_figure_47 : decode cX11_figure 47 = .ok (.iconst (-1), 1) := by decide +kernel
theorem dX11_figure_48 : decode cX11_figure 48 = .ok (.if_icmp .ne 7, 3) := by decide +kernel
theorem dX11_figure_51 : decode cX11_figure 51 = .ok (.iconst 1, 1) := by decide +kernel
theorem dX11_figure_52 : decode cX11_figure 52 = .ok (.goto 4, 3) := by decide +kernel
theorem dX11_figure_55 : decode cX11_figure 55 = .ok (.iconst 0, 1) := by decide +kernel
theorem dX11_figure_56 : decode cX11_figure 56 = .ok (.iadd, 1) := by decide +kernel
theorem dX11_figure_57 : decode cX11_figure 57 = .ok (.putfield 249, 3) := by decide +kernel
theorem dX11_figure_60 : decode cX11_figure 60 = .ok (.iload_n 3, 1) := by decide +kernel
theorem dX11_figure_61 : decode cX11_figure 61 = .ok (.ireturn, 1) := by decide +kernel
theorem dX11_signed_0 : decode cX11_signed 0 = .ok (.aload_n 0, 1) := by decide +kernel
theorem dX11_signed_1 : decode cX11_signed 1 = .ok (.invokevirtual 259, 3) := by decide +kernel
theorem dX11_signed_4 : decode cX11_signed 4 = .ok (.bipush 45, 2) := by decide +kernel
theorem dX11_signed_6 : decode cX11_signed 6 = .ok (.if_icmp .eq 11, 3) := by decide +kernel
theorem dX11_signed_9 : decode cX11_signed 9 = .ok (.aload_n 0, 1) := by decide +kernel
theorem dX11_signed_10 : decode cX11_signed 10 = .ok (.iconst 0, 1) := by decide +kernel
theorem dX11_signed_11 : decode cX11_signed 11 = .ok (.bipush 9, 2) := by decide +kernel
theorem dX11_signed_13 : decode cX11_signed 13 = .ok (.invokevirtual 262, 3) := by decide +kernel
theorem dX11_signed_16 : decode cX11_signed 16 = .ok (.ireturn, 1) := by decide +kernel
theorem dX11_signed_17 : decode cX11_signed 17 = .ok (.aload_n 0, 1) := by decide +kernel
theorem dX11_signed_18 : decode cX11_signed 18 = .ok (.dup, 1) := by decide +kernel
theorem dX11_signed_19 : decode cX11_signed 19 = .ok (.getfield 249, 3) := by decide +kernel
theorem dX11_signed_22 : decode cX11_signed 22 = .ok (.iconst 1, 1) := by decide +kernel
theorem dX11_signed_23 : decode cX11_signed 23 = .ok (.iadd, 1) := by decide +kernel
theorem dX11_signed_24 : decode cX11_signed 24 = .ok (.putfield 249, 3) := by decide +kernel
theorem dX11_signed_27 : decode cX11_signed 27 = .ok (.aload_n 0, 1) := by decide +kernel
theorem dX11_signed_28 : decode cX11_signed 28 = .ok (.iconst 1, 1) := by decide +kernel
theorem dX11_signed_29 : decode cX11_signed 29 = .ok (.bipush 9, 2) := by decide +kernel
theorem dX11_signed_31 : decode cX11_signed 31 = .ok (.invokevirtual 262, 3) := by decide +kernel
theorem dX11_signed_34 : decode cX11_signed 34 = .ok (.ineg, 1) := by decide +kernel
theorem dX11_signed_35 : decode cX11_signed 35 = .ok (.ireturn, 1) := by decide +kernel
theorem dX11_plain_0 : decode cX11_plain 0 = .ok (.aload_n 0, 1) := by decide +kernel
theorem dX11_plain_1 : decode cX11_plain 1 = .ok (.invokevirtual 259, 3) := by decide +kernel
theorem dX11_plain_4 : decode cX11_plain 4 = .ok (.istore_n 2, 1) := by decide +kernel
theorem dX11_plain_5 : decode cX11_plain 5 = .ok (.iload_n 2, 1) := by decide +kernel
theorem dX11_plain_6 : decode cX11_plain 6 = .ok (.iconst (-1), 1) := by decide +kernel
theorem dX11_plain_7 : decode cX11_plain 7 = .ok (.if_icmp .ne 12, 3) := by decide +kernel
theorem dX11_plain_10 : decode cX11_plain 10 = .ok (.aload_n 0, 1) := by decide +kernel
theorem dX11_plain_11 : decode cX11_plain 11 = .ok (.iconst 0, 1) := by decide +kernel
theorem dX11_plain_12 : decode cX11_plain 12 = .ok (.iconst (-1), 1) := by decide +kernel
theorem dX11_plain_13 : decode cX11_plain 13 = .ok (.invokevirtual 262, 3) := by decide +kernel
theorem dX11_plain_16 : decode cX11_plain 16 = .ok (.goto 23, 3) := by decide +kernel
theorem dX11_plain_19 : decode cX11_plain 19 = .ok (.iload_n 1, 1) := by decide +kernel
theorem dX11_plain_20 : decode cX11_plain 20 = .ok (.ifCond .eq 12, 3) := by decide +kernel
theorem dX11_plain_23 : decode cX11_plain 23 = .ok (.aload_n 0, 1) := by decide +kernel
theorem dX11_plain_24 : decode cX11_plain 24 = .ok (.iconst 2, 1) := by decide +kernel
theorem dX11_plain_25 : decode cX11_plain 25 = .ok (.iconst 4, 1) := by decide +kernel
theorem dX11_plain_26 : decode cX11_plain 26 = .ok (.invokevirtual 262, 3) := by decide +kernel
theorem dX11_plain_29 : decode cX11_plain 29 = .ok (.goto 10, 3) := by decide +kernel
theorem dX11_plain_32 : decode cX11_plain 32 = .ok (.aload_n 0, 1) := by decide +kernel
theorem dX11_plain_33 : decode cX11_plain 33 = .ok (.iconst 0, 1) := by decide +kernel
theorem dX11_plain_34 : decode cX11_plain 34 = .ok (.bipush 9, 2) := by decide +kernel
theorem dX11_plain_36 : decode cX11_plain 36 = .ok (.invokevirtual 262, 3) := by decide +kernel
theorem dX11_plain_39 : decode cX11_plain 39 = .ok (.ireturn, 1) := by decide +kernel
theorem dX11_numbersOf_0 : decode cX11_numbersOf 0 = .ok (.iload_n 0, 1) := by decide +kernel
theorem dX11_numbersOf_1 : decode cX11_numbersOf 1 = .ok (.bipush 112, 2) := by decide +kernel
theorem dX11_numbersOf_3 : decode cX11_numbersOf 3 = .ok (.if_icmp .ne 7, 3) := by decide +kernel
theorem dX11_numbersOf_6 : decode cX11_numbersOf 6 = .ok (.iload_n 1, 1) := by decide +kernel
theorem dX11_numbersOf_7 : decode cX11_numbersOf 7 = .ok (.goto 42, 3) := by decide +kernel
theorem dX11_numbersOf_10 : decode cX11_numbersOf 10 = .ok (.iload_n 0, 1) := by decide +kernel
theorem dX11_numbersOf_11 : decode cX11_numbersOf 11 = .ok (.bipush 115, 2) := by decide +kernel
theorem dX11_numbersOf_13 : decode cX11_numbersOf 13 = .ok (.if_icmp .ne 7, 3) := by decide +kernel
theorem dX11_numbersOf_16 : decode cX11_numbersOf 16 = .ok (.iconst 2, 1) := by decide +kernel
theorem dX11_numbersOf_17 : decode cX11_numbersOf 17 = .ok (.goto 32, 3) := by decide +kernel
theorem dX11_numbersOf_20 : decode cX11_numbersOf 20 = .ok (.iload_n 0, 1) := by decide +kernel
theorem dX11_numbersOf_21 : decode cX11_numbersOf 21 = .ok (.bipush 100, 2) := by decide +kernel
theorem dX11_numbersOf_23 : decode cX11_numbersOf 23 = .ok (.if_icmp .eq 21, 3) := by decide +kernel
theorem dX11_numbersOf_26 : decode cX11_numbersOf 26 = .ok (.iload_n 0, 1) := by decide +kernel
theorem dX11_numbersOf_27 : decode cX11_numbersOf 27 = .ok (.bipush 116, 2) := by decide +kernel
theorem dX11_numbersOf_29 : decode cX11_numbersOf 29 = .ok (.if_icmp .eq 15, 3) := by decide +kernel
theorem dX11_numbersOf_32 : decode cX11_numbersOf 32 = .ok (.iload_n 0, 1) := by decide +kernel
theorem dX11_numbersOf_33 : decode cX11_numbersOf 33 = .ok (.bipush 120, 2) := by decide +kernel
theorem dX11_numbersOf_35 : decode cX11_numbersOf 35 = .ok (.if_icmp .eq 9, 3) := by decide +kernel
theorem dX11_numbersOf_38 : decode cX11_numbersOf 38 = .ok (.iload_n 0, 1) := by decide +kernel
theorem dX11_numbersOf_39 : decode cX11_numbersOf 39 = .ok (.bipush 109, 2) := by decide +kernel
theorem dX11_numbersOf_41 : decode cX11_numbersOf 41 = .ok (.if_icmp .ne 7, 3) := by decide +kernel
theorem dX11_numbersOf_44 : decode cX11_numbersOf 44 = .ok (.iconst 1, 1) := by decide +kernel
theorem dX11_numbersOf_45 : decode cX11_numbersOf 45 = .ok (.goto 4, 3) := by decide +kernel
theorem dX11_numbersOf_48 : decode cX11_numbersOf 48 = .ok (.iconst (-1), 1) := by decide +kernel
theorem dX11_numbersOf_49 : decode cX11_numbersOf 49 = .ok (.ireturn, 1) := by decide +kernel
theorem dX11_readOrder_0 : decode cX11_readOrder 0 = .ok (.aload_n 0, 1) := by decide +kernel
theorem dX11_readOrder_1 : decode cX11_readOrder 1 = .ok (.invokevirtual 259, 3) := by decide +kernel
theorem dX11_readOrder_4 : decode cX11_readOrder 4 = .ok (.istore_n 2, 1) := by decide +kernel
theorem dX11_readOrder_5 : decode cX11_readOrder 5 = .ok (.iload_n 2, 1) := by decide +kernel
theorem dX11_readOrder_6 : decode cX11_readOrder 6 = .ok (.iload_n 1, 1) := by decide +kernel
theorem dX11_readOrder_7 : decode cX11_readOrder 7 = .ok (.invokestatic 265, 3) := by decide +kernel
theorem dX11_readOrder_10 : decode cX11_readOrder 10 = .ok (.istore_n 3, 1) := by decide +kernel
theorem dX11_readOrder_11 : decode cX11_readOrder 11 = .ok (.aload_n 0, 1) := by decide +kernel
theorem dX11_readOrder_12 : decode cX11_readOrder 12 = .ok (.iload_n 3, 1) := by decide +kernel
theorem dX11_readOrder_13 : decode cX11_readOrder 13 = .ok (.iconst (-1), 1) := by decide +kernel
theorem dX11_readOrder_14 : decode cX11_readOrder 14 = .ok (.if_icmp .eq 7, 3) := by decide +kernel
theorem dX11_readOrder_17 : decode cX11_readOrder 17 = .ok (.iconst 1, 1) := by decide +kernel
theorem dX11_readOrder_18 : decode cX11_readOrder 18 = .ok (.goto 4, 3) := by decide +kernel
theorem dX11_readOrder_21 : decode cX11_readOrder 21 = .ok (.iconst 0, 1) := by decide +kernel
theorem dX11_readOrder_22 : decode cX11_readOrder 22 = .ok (.invokevirtual 255, 3) := by decide +kernel
theorem dX11_readOrder_25 : decode cX11_readOrder 25 = .ok (.aload_n 0, 1) := by decide +kernel
theorem dX11_readOrder_26 : decode cX11_readOrder 26 = .ok (.getfield 252, 3) := by decide +kernel
theorem dX11_readOrder_29 : decode cX11_readOrder 29 = .ok (.iconst (-1), 1) := by decide +kernel
theorem dX11_readOrder_30 : decode cX11_readOrder 30 = .ok (.if_icmp .eq 5, 3) := by decide +kernel
theorem dX11_readOrder_33 : decode cX11_readOrder 33 = .ok (.iload_n 1, 1) := by decide +kernel
theorem dX11_readOrder_34 : decode cX11_readOrder 34 = .ok (.ireturn, 1) := by decide +kernel
theorem dX11_readOrder_35 : decode cX11_readOrder 35 = .ok (.aload_n 0, 1) := by decide +kernel
theorem dX11_readOrder_36 : decode cX11_readOrder 36 = .ok (.dup, 1) := by decide +kernel
theorem dX11_readOrder_37 : decode cX11_readOrder 37 = .ok (.getfield 249, 3) := by decide +kernel
theorem dX11_readOrder_40 : decode cX11_readOrder 40 = .ok (.iconst 1, 1) := by decide +kernel
theorem dX11_readOrder_41 : decode cX11_readOrder 41 = .ok (.iadd, 1) := by decide +kernel
theorem dX11_readOrder_42 : decode cX11_readOrder 42 = .ok (.putfield 249, 3) := by decide +kernel
theorem dX11_readOrder_45 : decode cX11_readOrder 45 = .ok (.aload_n 0, 1) := by decide +kernel
theorem dX11_readOrder_46 : decode cX11_readOrder 46 = .ok (.getfield 76, 3) := by decide +kernel
theorem dX11_readOrder_49 : decode cX11_readOrder 49 = .ok (.aload_n 0, 1) := by decide +kernel
theorem dX11_readOrder_50 : decode cX11_readOrder 50 = .ok (.getfield 268, 3) := by decide +kernel
theorem dX11_readOrder_53 : decode cX11_readOrder 53 = .ok (.iload_n 2, 1) := by decide +kernel
theorem dX11_readOrder_54 : decode cX11_readOrder 54 = .ok (.iastore, 1) := by decide +kernel
theorem dX11_readOrder_55 : decode cX11_readOrder 55 = .ok (.iconst 0, 1) := by decide +kernel
theorem dX11_readOrder_56 : decode cX11_readOrder 56 = .ok (.istore 4, 2) := by decide +kernel
theorem dX11_readOrder_58 : decode cX11_readOrder 58 = .ok (.iload 4, 2) := by decide +kernel
theorem dX11_readOrder_60 : decode cX11_readOrder 60 = .ok (.iconst 4, 1) := by decide +kernel
theorem dX11_readOrder_61 : decode cX11_readOrder 61 = .ok (.if_icmp .ge 24, 3) := by decide +kernel
theorem dX11_readOrder_64 : decode cX11_readOrder 64 = .ok (.aload_n 0, 1) := by decide +kernel
theorem dX11_readOrder_65 : decode cX11_readOrder 65 = .ok (.getfield 79, 3) := by decide +kernel
theorem dX11_readOrder_68 : decode cX11_readOrder 68 = .ok (.iconst 4, 1) := by decide +kernel
theorem dX11_readOrder_69 : decode cX11_readOrder 69 = .ok (.aload_n 0, 1) := by decide +kernel
theorem dX11_readOrder_70 : decode cX11_readOrder 70 = .ok (.getfield 268, 3) := by decide +kernel
theorem dX11_readOrder_73 : decode cX11_readOrder 73 = .ok (.imul, 1) := by decide +kernel
theorem dX11_readOrder_74 : decode cX11_readOrder 74 = .ok (.iload 4, 2) := by decide +kernel
theorem dX11_readOrder_76 : decode cX11_readOrder 76 = .ok (.iadd, 1) := by decide +kernel
theorem dX11_readOrder_77 : decode cX11_readOrder 77 = .ok (.iconst 0, 1) := by decide +kernel
theorem dX11_readOrder_78 : decode cX11_readOrder 78 = .ok (.iastore, 1) := by decide +kernel
theorem dX11_readOrder_79 : decode cX11_readOrder 79 = .ok (.iinc 4 1, 3) := by decide +kernel
theorem dX11_readOrder_82 : decode cX11_readOrder 82 = .ok (.goto (-24), 3) := by decide +kernel
theorem dX11_readOrder_85 : decode cX11_readOrder 85 = .ok (.iconst 0, 1) := by decide +kernel
theorem dX11_readOrder_86 : decode cX11_readOrder 86 = .ok (.istore 4, 2) := by decide +kernel
theorem dX11_readOrder_88 : decode cX11_readOrder 88 = .ok (.iload 4, 2) := by decide +kernel
theorem dX11_readOrder_90 : decode cX11_readOrder 90 = .ok (.iload_n 3, 1) := by decide +kernel
theorem dX11_readOrder_91 : decode cX11_readOrder 91 = .ok (.if_icmp .ge 59, 3) := by decide +kernel
theorem dX11_readOrder_94 : decode cX11_readOrder 94 = .ok (.aload_n 0, 1) := by decide +kernel
theorem dX11_readOrder_95 : decode cX11_readOrder 95 = .ok (.getfield 252, 3) := by decide +kernel
theorem dX11_readOrder_98 : decode cX11_readOrder 98 = .ok (.iconst (-1), 1) := by decide +kernel
theorem dX11_readOrder_99 : decode cX11_readOrder 99 = .ok (.if_icmp .ne 51, 3) := by decide +kernel
theorem dX11_readOrder_102 : decode cX11_readOrder 102 = .ok (.aload_n 0, 1) := by decide +kernel
theorem dX11_readOrder_103 : decode cX11_readOrder 103 = .ok (.getfield 79, 3) := by decide +kernel
theorem dX11_readOrder_106 : decode cX11_readOrder 106 = .ok (.iconst 4, 1) := by decide +kernel
theorem dX11_readOrder_107 : decode cX11_readOrder 107 = .ok (.aload_n 0, 1) := by decide +kernel
theorem dX11_readOrder_108 : decode cX11_readOrder 108 = .ok (.getfield 268, 3) := by decide +kernel
theorem dX11_readOrder_111 : decode cX11_readOrder 111 = .ok (.imul, 1) := by decide +kernel
theorem dX11_readOrder_112 : decode cX11_readOrder 112 = .ok (.iload 4, 2) := by decide +kernel
theorem dX11_readOrder_114 : decode cX11_readOrder 114 = .ok (.iadd, 1) := by decide +kernel
theorem dX11_readOrder_115 : decode cX11_readOrder 115 = .ok (.iload_n 2, 1) := by decide +kernel
theorem dX11_readOrder_116 : decode cX11_readOrder 116 = .ok (.bipush 112, 2) := by decide +kernel
theorem dX11_readOrder_118 : decode cX11_readOrder 118 = .ok (.if_icmp .ne 10, 3) := by decide +kernel
theorem dX11_readOrder_121 : decode cX11_readOrder 121 = .ok (.aload_n 0, 1) := by decide +kernel
theorem dX11_readOrder_122 : decode cX11_readOrder 122 = .ok (.invokevirtual 271, 3) := by decide +kernel
theorem dX11_readOrder_125 : decode cX11_readOrder 125 = .ok (.goto 18, 3) := by decide +kernel
theorem dX11_readOrder_128 : decode cX11_readOrder 128 = .ok (.aload_n 0, 1) := by decide +kernel
theorem dX11_readOrder_129 : decode cX11_readOrder 129 = .ok (.iload_n 2, 1) := by decide +kernel
theorem dX11_readOrder_130 : decode cX11_readOrder 130 = .ok (.bipush 100, 2) := by decide +kernel
theorem dX11_readOrder_132 : decode cX11_readOrder 132 = .ok (.if_icmp .ne 7, 3) := by decide +kernel
theorem dX11_readOrder_135 : decode cX11_readOrder 135 = .ok (.iconst 1, 1) := by decide +kernel
theorem dX11_readOrder_136 : decode cX11_readOrder 136 = .ok (.goto 4, 3) := by decide +kernel
theorem dX11_readOrder_139 : decode cX11_readOrder 139 = .ok (.iconst 0, 1) := by decide +kernel
theorem dX11_readOrder_140 : decode cX11_readOrder 140 = .ok (.invokevirtual 274, 3) := by decide +kernel
theorem dX11_readOrder_143 : decode cX11_readOrder 143 = .ok (.iastore, 1) := by decide +kernel
theorem dX11_readOrder_144 : decode cX11_readOrder 144 = .ok (.iinc 4 1, 3) := by decide +kernel
theorem dX11_readOrder_147 : decode cX11_readOrder 147 = .ok (.goto (-59), 3) := by decide +kernel
theorem dX11_readOrder_150 : decode cX11_readOrder 150 = .ok (.aload_n 0, 1) := by decide +kernel
theorem dX11_readOrder_151 : decode cX11_readOrder 151 = .ok (.getfield 252, 3) := by decide +kernel
theorem dX11_readOrder_154 : decode cX11_readOrder 154 = .ok (.iconst (-1), 1) := by decide +kernel
theorem dX11_readOrder_155 : decode cX11_readOrder 155 = .ok (.if_icmp .ne 10, 3) := by decide +kernel
theorem dX11_readOrder_158 : decode cX11_readOrder 158 = .ok (.aload_n 0, 1) := by decide +kernel
theorem dX11_readOrder_159 : decode cX11_readOrder 159 = .ok (.invokevirtual 259, 3) := by decide +kernel
theorem dX11_readOrder_162 : decode cX11_readOrder 162 = .ok (.goto 5, 3) := by decide +kernel
theorem dX11_readOrder_165 : decode cX11_readOrder 165 = .ok (.bipush 59, 2) := by decide +kernel
theorem dX11_readOrder_167 : decode cX11_readOrder 167 = .ok (.istore 4, 2) := by decide +kernel
theorem dX11_readOrder_169 : decode cX11_readOrder 169 = .ok (.aload_n 0, 1) := by decide +kernel
theorem dX11_readOrder_170 : decode cX11_readOrder 170 = .ok (.iload 4, 2) := by decide +kernel
theorem dX11_readOrder_172 : decode cX11_readOrder 172 = .ok (.bipush 59, 2) := by decide +kernel
theorem dX11_readOrder_174 : decode cX11_readOrder 174 = .ok (.if_icmp .ne 7, 3) := by decide +kernel
theorem dX11_readOrder_177 : decode cX11_readOrder 177 = .ok (.iconst 1, 1) := by decide +kernel
theorem dX11_readOrder_178 : decode cX11_readOrder 178 = .ok (.goto 4, 3) := by decide +kernel
theorem dX11_readOrder_181 : decode cX11_readOrder 181 = .ok (.iconst 0, 1) := by decide +kernel
theorem dX11_readOrder_182 : decode cX11_readOrder 182 = .ok (.invokevirtual 255, 3) := by decide +kernel
theorem dX11_readOrder_185 : decode cX11_readOrder 185 = .ok (.aload_n 0, 1) := by decide +kernel
theorem dX11_readOrder_186 : decode cX11_readOrder 186 = .ok (.dup, 1) := by decide +kernel
theorem dX11_readOrder_187 : decode cX11_readOrder 187 = .ok (.getfield 249, 3) := by decide +kernel
theorem dX11_readOrder_190 : decode cX11_readOrder 190 = .ok (.iconst 1, 1) := by decide +kernel
theorem dX11_readOrder_191 : decode cX11_readOrder 191 = .ok (.iadd, 1) := by decide +kernel
theorem dX11_readOrder_192 : decode cX11_readOrder 192 = .ok (.putfield 249, 3) := by decide +kernel
theorem dX11_readOrder_195 : decode cX11_readOrder 195 = .ok (.aload_n 0, 1) := by decide +kernel
theorem dX11_readOrder_196 : decode cX11_readOrder 196 = .ok (.dup, 1) := by decide +kernel
theorem dX11_readOrder_197 : decode cX11_readOrder 197 = .ok (.getfield 268, 3) := by decide +kernel
theorem dX11_readOrder_200 : decode cX11_readOrder 200 = .ok (.iconst 1, 1) := by decide +kernel
theorem dX11_readOrder_201 : decode cX11_readOrder 201 = .ok (.iadd, 1) := by decide +kernel
theorem dX11_readOrder_202 : decode cX11_readOrder 202 = .ok (.putfield 268, 3) := by decide +kernel
theorem dX11_readOrder_205 : decode cX11_readOrder 205 = .ok (.iload_n 2, 1) := by decide +kernel
theorem dX11_readOrder_206 : decode cX11_readOrder 206 = .ok (.bipush 100, 2) := by decide +kernel
theorem dX11_readOrder_208 : decode cX11_readOrder 208 = .ok (.if_icmp .ne 19, 3) := by decide +kernel
theorem dX11_readOrder_211 : decode cX11_readOrder 211 = .ok (.aload_n 0, 1) := by decide +kernel
theorem dX11_readOrder_212 : decode cX11_readOrder 212 = .ok (.getfield 79, 3) := by decide +kernel
theorem dX11_readOrder_215 : decode cX11_readOrder 215 = .ok (.iconst 4, 1) := by decide +kernel
theorem dX11_readOrder_216 : decode cX11_readOrder 216 = .ok (.aload_n 0, 1) := by decide +kernel
theorem dX11_readOrder_217 : decode cX11_readOrder 217 = .ok (.getfield 268, 3) := by decide +kernel
theorem dX11_readOrder_220 : decode cX11_readOrder 220 = .ok (.imul, 1) := by decide +kernel
theorem dX11_readOrder_221 : decode cX11_readOrder 221 = .ok (.iconst 4, 1) := by decide +kernel
theorem dX11_readOrder_222 : decode cX11_readOrder 222 = .ok (.isub, 1) := by decide +kernel
theorem dX11_readOrder_223 : decode cX11_readOrder 223 = .ok (.iaload, 1) := by decide +kernel
theorem dX11_readOrder_224 : decode cX11_readOrder 224 = .ok (.goto 4, 3) := by decide +kernel
theorem dX11_readOrder_227 : decode cX11_readOrder 227 = .ok (.iload_n 1, 1) := by decide +kernel
theorem dX11_readOrder_228 : decode cX11_readOrder 228 = .ok (.ireturn, 1) := by decide +kernel
theorem dX11_doOrder_0 : decode cX11_doOrder 0 = .ok (.aload_n 0, 1) := by decide +kernel
theorem dX11_doOrder_1 : decode cX11_doOrder 1 = .ok (.getfield 79, 3) := by decide +kernel
theorem dX11_doOrder_4 : decode cX11_doOrder 4 = .ok (.iconst 4, 1) := by decide +kernel
theorem dX11_doOrder_5 : decode cX11_doOrder 5 = .ok (.iload_n 1, 1) := by decide +kernel
theorem dX11_doOrder_6 : decode cX11_doOrder 6 = .ok (.imul, 1) := by decide +kernel
theorem dX11_doOrder_7 : decode cX11_doOrder 7 = .ok (.iaload, 1) := by decide +kernel
theorem dX11_doOrder_8 : decode cX11_doOrder 8 = .ok (.istore_n 2, 1) := by decide +kernel
theorem dX11_doOrder_9 : decode cX11_doOrder 9 = .ok (.aload_n 0, 1) := by decide +kernel
theorem dX11_doOrder_10 : decode cX11_doOrder 10 = .ok (.getfield 79, 3) := by decide +kernel
theorem dX11_doOrder_13 : decode cX11_doOrder 13 = .ok (.iconst 4, 1) := by decide +kernel
theorem dX11_doOrder_14 : decode cX11_doOrder 14 = .ok (.iload_n 1, 1) := by decide +kernel
theorem dX11_doOrder_15 : decode cX11_doOrder 15 = .ok (.imul, 1) := by decide +kernel
theorem dX11_doOrder_16 : decode cX11_doOrder 16 = .ok (.iconst 1, 1) := by decide +kernel
theorem dX11_doOrder_17 : decode cX11_doOrder 17 = .ok (.iadd, 1) := by decide +kernel
theorem dX11_doOrder_18 : decode cX11_doOrder 18 = .ok (.iaload, 1) := by decide +kernel
theorem dX11_doOrder_19 : decode cX11_doOrder 19 = .ok (.istore_n 3, 1) := by decide +kernel
theorem dX11_doOrder_20 : decode cX11_doOrder 20 = .ok (.aload_n 0, 1) := by decide +kernel
theorem dX11_doOrder_21 : decode cX11_doOrder 21 = .ok (.getfield 76, 3) := by decide +kernel
theorem dX11_doOrder_24 : decode cX11_doOrder 24 = .ok (.iload_n 1, 1) := by decide +kernel
theorem dX11_doOrder_25 : decode cX11_doOrder 25 = .ok (.iaload, 1) := by decide +kernel
theorem dX11_doOrder_26 : decode cX11_doOrder 26 = .ok (.lookupswitch 102 #[(100, 50), (112, 56), (115, 95), (116, 83), (120, 89)], 50) := by decide +kernel
theorem dX11_doOrder_76 : decode cX11_doOrder 76 = .ok (.aload_n 0, 1) := by decide +kernel
theorem dX11_doOrder_77 : decode cX11_doOrder 77 = .ok (.iload_n 2, 1) := by decide +kernel
theorem dX11_doOrder_78 : decode cX11_doOrder 78 = .ok (.invokevirtual 164, 3) := by decide +kernel
theorem dX11_doOrder_81 : decode cX11_doOrder 81 = .ok (.ireturn, 1) := by decide +kernel
theorem dX11_doOrder_82 : decode cX11_doOrder 82 = .ok (.aload_n 0, 1) := by decide +kernel
theorem dX11_doOrder_83 : decode cX11_doOrder 83 = .ok (.iload_n 2, 1) := by decide +kernel
theorem dX11_doOrder_84 : decode cX11_doOrder 84 = .ok (.iload_n 3, 1) := by decide +kernel
theorem dX11_doOrder_85 : decode cX11_doOrder 85 = .ok (.aload_n 0, 1) := by decide +kernel
theorem dX11_doOrder_86 : decode cX11_doOrder 86 = .ok (.getfield 79, 3) := by decide +kernel
theorem dX11_doOrder_89 : decode cX11_doOrder 89 = .ok (.iconst 4, 1) := by decide +kernel
theorem dX11_doOrder_90 : decode cX11_doOrder 90 = .ok (.iload_n 1, 1) := by decide +kernel
theorem dX11_doOrder_91 : decode cX11_doOrder 91 = .ok (.imul, 1) := by decide +kernel
theorem dX11_doOrder_92 : decode cX11_doOrder 92 = .ok (.iconst 2, 1) := by decide +kernel
theorem dX11_doOrder_93 : decode cX11_doOrder 93 = .ok (.iadd, 1) := by decide +kernel
theorem dX11_doOrder_94 : decode cX11_doOrder 94 = .ok (.iaload, 1) := by decide +kernel
theorem dX11_doOrder_95 : decode cX11_doOrder 95 = .ok (.aload_n 0, 1) := by decide +kernel
theorem dX11_doOrder_96 : decode cX11_doOrder 96 = .ok (.getfield 79, 3) := by decide +kernel
theorem dX11_doOrder_99 : decode cX11_doOrder 99 = .ok (.iconst 4, 1) := by decide +kernel
theorem dX11_doOrder_100 : decode cX11_doOrder 100 = .ok (.iload_n 1, 1) := by decide +kernel
theorem dX11_doOrder_101 : decode cX11_doOrder 101 = .ok (.imul, 1) := by decide +kernel
theorem dX11_doOrder_102 : decode cX11_doOrder 102 = .ok (.iconst 3, 1) := by decide +kernel
theorem dX11_doOrder_103 : decode cX11_doOrder 103 = .ok (.iadd, 1) := by decide +kernel
theorem dX11_doOrder_104 : decode cX11_doOrder 104 = .ok (.iaload, 1) := by decide +kernel
theorem dX11_doOrder_105 : decode cX11_doOrder 105 = .ok (.invokevirtual 170, 3) := by decide +kernel
theorem dX11_doOrder_108 : decode cX11_doOrder 108 = .ok (.ireturn, 1) := by decide +kernel
theorem dX11_doOrder_109 : decode cX11_doOrder 109 = .ok (.aload_n 0, 1) := by decide +kernel
theorem dX11_doOrder_110 : decode cX11_doOrder 110 = .ok (.iload_n 2, 1) := by decide +kernel
theorem dX11_doOrder_111 : decode cX11_doOrder 111 = .ok (.invokevirtual 174, 3) := by decide +kernel
theorem dX11_doOrder_114 : decode cX11_doOrder 114 = .ok (.ireturn, 1) := by decide +kernel
theorem dX11_doOrder_115 : decode cX11_doOrder 115 = .ok (.aload_n 0, 1) := by decide +kernel
theorem dX11_doOrder_116 : decode cX11_doOrder 116 = .ok (.iload_n 2, 1) := by decide +kernel
theorem dX11_doOrder_117 : decode cX11_doOrder 117 = .ok (.invokevirtual 180, 3) := by decide +kernel
theorem dX11_doOrder_120 : decode cX11_doOrder 120 = .ok (.ireturn, 1) := by decide +kernel
theorem dX11_doOrder_121 : decode cX11_doOrder 121 = .ok (.aload_n 0, 1) := by decide +kernel
theorem dX11_doOrder_122 : decode cX11_doOrder 122 = .ok (.iload_n 2, 1) := by decide +kernel
theorem dX11_doOrder_123 : decode cX11_doOrder 123 = .ok (.iload_n 3, 1) := by decide +kernel
theorem dX11_doOrder_124 : decode cX11_doOrder 124 = .ok (.invokevirtual 183, 3) := by decide +kernel
theorem dX11_doOrder_127 : decode cX11_doOrder 127 = .ok (.ireturn, 1) := by decide +kernel
theorem dX11_doOrder_128 : decode cX11_doOrder 128 = .ok (.aload_n 0, 1) := by decide +kernel
theorem dX11_doOrder_129 : decode cX11_doOrder 129 = .ok (.iload_n 2, 1) := by decide +kernel
theorem dX11_doOrder_130 : decode cX11_doOrder 130 = .ok (.invokevirtual 190, 3) := by decide +kernel
theorem dX11_doOrder_133 : decode cX11_doOrder 133 = .ok (.ireturn, 1) := by decide +kernel
theorem dX11_reads_0 : decode cX11_reads 0 = .ok (.aload_n 0, 1) := by decide +kernel
theorem dX11_reads_1 : decode cX11_reads 1 = .ok (.iconst 0, 1) := by decide +kernel
theorem dX11_reads_2 : decode cX11_reads 2 = .ok (.putfield 249, 3) := by decide +kernel
theorem dX11_reads_5 : decode cX11_reads 5 = .ok (.aload_n 0, 1) := by decide +kernel
theorem dX11_reads_6 : decode cX11_reads 6 = .ok (.iconst (-1), 1) := by decide +kernel
theorem dX11_reads_7 : decode cX11_reads 7 = .ok (.putfield 252, 3) := by decide +kernel
theorem dX11_reads_10 : decode cX11_reads 10 = .ok (.aload_n 0, 1) := by decide +kernel
theorem dX11_reads_11 : decode cX11_reads 11 = .ok (.iconst 0, 1) := by decide +kernel
theorem dX11_reads_12 : decode cX11_reads 12 = .ok (.putfield 268, 3) := by decide +kernel
theorem dX11_reads_15 : decode cX11_reads 15 = .ok (.aload_n 0, 1) := by decide +kernel
theorem dX11_reads_16 : decode cX11_reads 16 = .ok (.getfield 7, 3) := by decide +kernel
theorem dX11_reads_19 : decode cX11_reads 19 = .ok (.bipush 36, 2) := by decide +kernel
theorem dX11_reads_21 : decode cX11_reads 21 = .ok (.iaload, 1) := by decide +kernel
theorem dX11_reads_22 : decode cX11_reads 22 = .ok (.istore_n 1, 1) := by decide +kernel
theorem dX11_reads_23 : decode cX11_reads 23 = .ok (.aload_n 0, 1) := by decide +kernel
theorem dX11_reads_24 : decode cX11_reads 24 = .ok (.aload_n 0, 1) := by decide +kernel
theorem dX11_reads_25 : decode cX11_reads 25 = .ok (.invokevirtual 259, 3) := by decide +kernel
theorem dX11_reads_28 : decode cX11_reads 28 = .ok (.iconst (-1), 1) := by decide +kernel
theorem dX11_reads_29 : decode cX11_reads 29 = .ok (.if_icmp .eq 7, 3) := by decide +kernel
theorem dX11_reads_32 : decode cX11_reads 32 = .ok (.iconst 1, 1) := by decide +kernel
theorem dX11_reads_33 : decode cX11_reads 33 = .ok (.goto 4, 3) := by decide +kernel
theorem dX11_reads_36 : decode cX11_reads 36 = .ok (.iconst 0, 1) := by decide +kernel
theorem dX11_reads_37 : decode cX11_reads 37 = .ok (.invokevirtual 255, 3) := by decide +kernel
theorem dX11_reads_40 : decode cX11_reads 40 = .ok (.aload_n 0, 1) := by decide +kernel
theorem dX11_reads_41 : decode cX11_reads 41 = .ok (.getfield 252, 3) := by decide +kernel
theorem dX11_reads_44 : decode cX11_reads 44 = .ok (.iconst (-1), 1) := by decide +kernel
theorem dX11_reads_45 : decode cX11_reads 45 = .ok (.if_icmp .ne 20, 3) := by decide +kernel
theorem dX11_reads_48 : decode cX11_reads 48 = .ok (.aload_n 0, 1) := by decide +kernel
theorem dX11_reads_49 : decode cX11_reads 49 = .ok (.invokevirtual 259, 3) := by decide +kernel
theorem dX11_reads_52 : decode cX11_reads 52 = .ok (.iconst (-1), 1) := by decide +kernel
theorem dX11_reads_53 : decode cX11_reads 53 = .ok (.if_icmp .eq 12, 3) := by decide +kernel
theorem dX11_reads_56 : decode cX11_reads 56 = .ok (.aload_n 0, 1) := by decide +kernel
theorem dX11_reads_57 : decode cX11_reads 57 = .ok (.iload_n 1, 1) := by decide +kernel
theorem dX11_reads_58 : decode cX11_reads 58 = .ok (.invokevirtual 278, 3) := by decide +kernel
theorem dX11_reads_61 : decode cX11_reads 61 = .ok (.istore_n 1, 1) := by decide +kernel
theorem dX11_reads_62 : decode cX11_reads 62 = .ok (.goto (-22), 3) := by decide +kernel
theorem dX11_reads_65 : decode cX11_reads 65 = .ok (.aload_n 0, 1) := by decide +kernel
theorem dX11_reads_66 : decode cX11_reads 66 = .ok (.getfield 252, 3) := by decide +kernel
theorem dX11_reads_69 : decode cX11_reads 69 = .ok (.iconst (-1), 1) := by decide +kernel
theorem dX11_reads_70 : decode cX11_reads 70 = .ok (.if_icmp .eq 11, 3) := by decide +kernel
theorem dX11_reads_73 : decode cX11_reads 73 = .ok (.bipush (-10), 2) := by decide +kernel
theorem dX11_reads_75 : decode cX11_reads 75 = .ok (.aload_n 0, 1) := by decide +kernel
theorem dX11_reads_76 : decode cX11_reads 76 = .ok (.getfield 252, 3) := by decide +kernel
theorem dX11_reads_79 : decode cX11_reads 79 = .ok (.isub, 1) := by decide +kernel
theorem dX11_reads_80 : decode cX11_reads 80 = .ok (.ireturn, 1) := by decide +kernel
theorem dX11_reads_81 : decode cX11_reads 81 = .ok (.aload_n 0, 1) := by decide +kernel
theorem dX11_reads_82 : decode cX11_reads 82 = .ok (.invokevirtual 161, 3) := by decide +kernel
theorem dX11_reads_85 : decode cX11_reads 85 = .ok (.iconst 0, 1) := by decide +kernel
theorem dX11_reads_86 : decode cX11_reads 86 = .ok (.istore_n 2, 1) := by decide +kernel
theorem dX11_reads_87 : decode cX11_reads 87 = .ok (.iload_n 2, 1) := by decide +kernel
theorem dX11_reads_88 : decode cX11_reads 88 = .ok (.aload_n 0, 1) := by decide +kernel
theorem dX11_reads_89 : decode cX11_reads 89 = .ok (.getfield 268, 3) := by decide +kernel
theorem dX11_reads_92 : decode cX11_reads 92 = .ok (.if_icmp .ge 66, 3) := by decide +kernel
theorem dX11_reads_95 : decode cX11_reads 95 = .ok (.aload_n 0, 1) := by decide +kernel
theorem dX11_reads_96 : decode cX11_reads 96 = .ok (.iload_n 2, 1) := by decide +kernel
theorem dX11_reads_97 : decode cX11_reads 97 = .ok (.invokevirtual 281, 3) := by decide +kernel
theorem dX11_reads_100 : decode cX11_reads 100 = .ok (.istore_n 3, 1) := by decide +kernel
theorem dX11_reads_101 : decode cX11_reads 101 = .ok (.iload_n 3, 1) := by decide +kernel
theorem dX11_reads_102 : decode cX11_reads 102 = .ok (.ifCond .ge 50, 3) := by decide +kernel
theorem dX11_reads_105 : decode cX11_reads 105 = .ok (.iconst 0, 1) := by decide +kernel
theorem dX11_reads_106 : decode cX11_reads 106 = .ok (.istore 4, 2) := by decide +kernel
theorem dX11_reads_108 : decode cX11_reads 108 = .ok (.iload 4, 2) := by decide +kernel
theorem dX11_reads_110 : decode cX11_reads 110 = .ok (.bipush 38, 2) := by decide +kernel
theorem dX11_reads_112 : decode cX11_reads 112 = .ok (.if_icmp .ge 23, 3) := by decide +kernel
theorem dX11_reads_115 : decode cX11_reads 115 = .ok (.aload_n 0, 1) := by decide +kernel
theorem dX11_reads_116 : decode cX11_reads 116 = .ok (.getfield 7, 3) := by decide +kernel
theorem dX11_reads_119 : decode cX11_reads 119 = .ok (.iload 4, 2) := by decide +kernel
theorem dX11_reads_121 : decode cX11_reads 121 = .ok (.aload_n 0, 1) := by decide +kernel
theorem dX11_reads_122 : decode cX11_reads 122 = .ok (.getfield 13, 3) := by decide +kernel
theorem dX11_reads_125 : decode cX11_reads 125 = .ok (.iload 4, 2) := by decide +kernel
theorem dX11_reads_127 : decode cX11_reads 127 = .ok (.iaload, 1) := by decide +kernel
theorem dX11_reads_128 : decode cX11_reads 128 = .ok (.iastore, 1) := by decide +kernel
theorem dX11_reads_129 : decode cX11_reads 129 = .ok (.iinc 4 1, 3) := by decide +kernel
theorem dX11_reads_132 : decode cX11_reads 132 = .ok (.goto (-24), 3) := by decide +kernel
theorem dX11_reads_135 : decode cX11_reads 135 = .ok (.aload_n 0, 1) := by decide +kernel
theorem dX11_reads_136 : decode cX11_reads 136 = .ok (.iload_n 3, 1) := by decide +kernel
theorem dX11_reads_137 : decode cX11_reads 137 = .ok (.ineg, 1) := by decide +kernel
theorem dX11_reads_138 : decode cX11_reads 138 = .ok (.putfield 284, 3) := by decide +kernel
theorem dX11_reads_141 : decode cX11_reads 141 = .ok (.aload_n 0, 1) := by decide +kernel
theorem dX11_reads_142 : decode cX11_reads 142 = .ok (.iload_n 2, 1) := by decide +kernel
theorem dX11_reads_143 : decode cX11_reads 143 = .ok (.putfield 25, 3) := by decide +kernel
theorem dX11_reads_146 : decode cX11_reads 146 = .ok (.sipush (-1000), 3) := by decide +kernel
theorem dX11_reads_149 : decode cX11_reads 149 = .ok (.iload_n 2, 1) := by decide +kernel
theorem dX11_reads_150 : decode cX11_reads 150 = .ok (.isub, 1) := by decide +kernel
theorem dX11_reads_151 : decode cX11_reads 151 = .ok (.ireturn, 1) := by decide +kernel
theorem dX11_reads_152 : decode cX11_reads 152 = .ok (.iinc 2 1, 3) := by decide +kernel
theorem dX11_reads_155 : decode cX11_reads 155 = .ok (.goto (-68), 3) := by decide +kernel
theorem dX11_reads_158 : decode cX11_reads 158 = .ok (.aload_n 0, 1) := by decide +kernel
theorem dX11_reads_159 : decode cX11_reads 159 = .ok (.invokevirtual 158, 3) := by decide +kernel
theorem dX11_reads_162 : decode cX11_reads 162 = .ok (.aload_n 0, 1) := by decide +kernel
theorem dX11_reads_163 : decode cX11_reads 163 = .ok (.getfield 268, 3) := by decide +kernel
theorem dX11_reads_166 : decode cX11_reads 166 = .ok (.ireturn, 1) := by decide +kernel
theorem dX11_cause_0 : decode cX11_cause 0 = .ok (.iload_n 1, 1) := by decide +kernel
theorem dX11_cause_1 : decode cX11_cause 1 = .ok (.ifCond .ne 10, 3) := by decide +kernel
theorem dX11_cause_4 : decode cX11_cause 4 = .ok (.aload_n 0, 1) := by decide +kernel
theorem dX11_cause_5 : decode cX11_cause 5 = .ok (.getfield 284, 3) := by decide +kernel
theorem dX11_cause_8 : decode cX11_cause 8 = .ok (.goto 7, 3) := by decide +kernel
theorem dX11_cause_11 : decode cX11_cause 11 = .ok (.aload_n 0, 1) := by decide +kernel
theorem dX11_cause_12 : decode cX11_cause 12 = .ok (.getfield 25, 3) := by decide +kernel
theorem dX11_cause_15 : decode cX11_cause 15 = .ok (.ireturn, 1) := by decide +kernel
theorem dX11_why_0 : decode cX11_why 0 = .ok (.iload_n 1, 1) := by decide +kernel
theorem dX11_why_1 : decode cX11_why 1 = .ok (.iconst 0, 1) := by decide +kernel
theorem dX11_why_2 : decode cX11_why 2 = .ok (.iconst 1, 1) := by decide +kernel
theorem dX11_why_3 : decode cX11_why 3 = .ok (.invokestatic 113, 3) := by decide +kernel
theorem dX11_why_6 : decode cX11_why 6 = .ok (.ifCond .eq 11, 3) := by decide +kernel
theorem dX11_why_9 : decode cX11_why 9 = .ok (.aload_n 0, 1) := by decide +kernel
theorem dX11_why_10 : decode cX11_why 10 = .ok (.iload_n 1, 1) := by decide +kernel
theorem dX11_why_11 : decode cX11_why 11 = .ok (.invokevirtual 287, 3) := by decide +kernel
theorem dX11_why_14 : decode cX11_why 14 = .ok (.goto 9, 3) := by decide +kernel
theorem dX11_why_17 : decode cX11_why 17 = .ok (.aload_n 0, 1) := by decide +kernel
theorem dX11_why_18 : decode cX11_why 18 = .ok (.bipush (-2), 2) := by decide +kernel
theorem dX11_why_20 : decode cX11_why 20 = .ok (.invokevirtual 89, 3) := by decide +kernel
theorem dX11_why_23 : decode cX11_why 23 = .ok (.ireturn, 1) := by decide +kernel
theorem dX11_toldOf_0 : decode cX11_toldOf 0 = .ok (.iload_n 1, 1) := by decide +kernel
theorem dX11_toldOf_1 : decode cX11_toldOf 1 = .ok (.tableswitch 75 3 7 #[35, 40, 48, 56, 70], 35) := by decide +kernel
theorem dX11_toldOf_36 : decode cX11_toldOf 36 = .ok (.aload_n 0, 1) := by decide +kernel
theorem dX11_toldOf_37 : decode cX11_toldOf 37 = .ok (.getfield 246, 3) := by decide +kernel
theorem dX11_toldOf_40 : decode cX11_toldOf 40 = .ok (.ireturn, 1) := by decide +kernel
theorem dX11_toldOf_41 : decode cX11_toldOf 41 = .ok (.aload_n 0, 1) := by decide +kernel
theorem dX11_toldOf_42 : decode cX11_toldOf 42 = .ok (.getfield 7, 3) := by decide +kernel
theorem dX11_toldOf_45 : decode cX11_toldOf 45 = .ok (.bipush 36, 2) := by decide +kernel
theorem dX11_toldOf_47 : decode cX11_toldOf 47 = .ok (.iaload, 1) := by decide +kernel
theorem dX11_toldOf_48 : decode cX11_toldOf 48 = .ok (.ireturn, 1) := by decide +kernel
theorem dX11_toldOf_49 : decode cX11_toldOf 49 = .ok (.aload_n 0, 1) := by decide +kernel
theorem dX11_toldOf_50 : decode cX11_toldOf 50 = .ok (.getfield 7, 3) := by decide +kernel
theorem dX11_toldOf_53 : decode cX11_toldOf 53 = .ok (.bipush 37, 2) := by decide +kernel
theorem dX11_toldOf_55 : decode cX11_toldOf 55 = .ok (.iaload, 1) := by decide +kernel
theorem dX11_toldOf_56 : decode cX11_toldOf 56 = .ok (.ireturn, 1) := by decide +kernel
theorem dX11_toldOf_57 : decode cX11_toldOf 57 = .ok (.aload_n 0, 1) := by decide +kernel
theorem dX11_toldOf_58 : decode cX11_toldOf 58 = .ok (.invokevirtual 187, 3) := by decide +kernel
theorem dX11_toldOf_61 : decode cX11_toldOf 61 = .ok (.aload_n 0, 1) := by decide +kernel
theorem dX11_toldOf_62 : decode cX11_toldOf 62 = .ok (.getfield 29, 3) := by decide +kernel
theorem dX11_toldOf_65 : decode cX11_toldOf 65 = .ok (.aload_n 0, 1) := by decide +kernel
theorem dX11_toldOf_66 : decode cX11_toldOf 66 = .ok (.invokevirtual 109, 3) := by decide +kernel
theorem dX11_toldOf_69 : decode cX11_toldOf 69 = .ok (.iaload, 1) := by decide +kernel
theorem dX11_toldOf_70 : decode cX11_toldOf 70 = .ok (.ireturn, 1) := by decide +kernel
theorem dX11_toldOf_71 : decode cX11_toldOf 71 = .ok (.aload_n 0, 1) := by decide +kernel
theorem dX11_toldOf_72 : decode cX11_toldOf 72 = .ok (.getfield 82, 3) := by decide +kernel
theorem dX11_toldOf_75 : decode cX11_toldOf 75 = .ok (.ireturn, 1) := by decide +kernel
theorem dX11_toldOf_76 : decode cX11_toldOf 76 = .ok (.aload_n 0, 1) := by decide +kernel
theorem dX11_toldOf_77 : decode cX11_toldOf 77 = .ok (.getfield 19, 3) := by decide +kernel
theorem dX11_toldOf_80 : decode cX11_toldOf 80 = .ok (.iload_n 1, 1) := by decide +kernel
theorem dX11_toldOf_81 : decode cX11_toldOf 81 = .ok (.iaload, 1) := by decide +kernel
theorem dX11_toldOf_82 : decode cX11_toldOf 82 = .ok (.ireturn, 1) := by decide +kernel
theorem dX11_told_0 : decode cX11_told 0 = .ok (.iload_n 1, 1) := by decide +kernel
theorem dX11_told_1 : decode cX11_told 1 = .ok (.iconst 0, 1) := by decide +kernel
theorem dX11_told_2 : decode cX11_told 2 = .ok (.bipush 7, 2) := by decide +kernel
theorem dX11_told_4 : decode cX11_told 4 = .ok (.invokestatic 113, 3) := by decide +kernel
theorem dX11_told_7 : decode cX11_told 7 = .ok (.ifCond .eq 11, 3) := by decide +kernel
theorem dX11_told_10 : decode cX11_told 10 = .ok (.aload_n 0, 1) := by decide +kernel
theorem dX11_told_11 : decode cX11_told 11 = .ok (.iload_n 1, 1) := by decide +kernel
theorem dX11_told_12 : decode cX11_told 12 = .ok (.invokevirtual 290, 3) := by decide +kernel
theorem dX11_told_15 : decode cX11_told 15 = .ok (.goto 9, 3) := by decide +kernel
theorem dX11_told_18 : decode cX11_told 18 = .ok (.aload_n 0, 1) := by decide +kernel
theorem dX11_told_19 : decode cX11_told 19 = .ok (.bipush (-2), 2) := by decide +kernel
theorem dX11_told_21 : decode cX11_told 21 = .ok (.invokevirtual 89, 3) := by decide +kernel
theorem dX11_told_24 : decode cX11_told 24 = .ok (.ireturn, 1) := by decide +kernel
theorem dX11_mix_0 : decode cX11_mix 0 = .ok (.aload_n 0, 1) := by decide +kernel
theorem dX11_mix_1 : decode cX11_mix 1 = .ok (.ldc2_w 293, 3) := by decide +kernel
theorem dX11_mix_4 : decode cX11_mix 4 = .ok (.aload_n 0, 1) := by decide +kernel
theorem dX11_mix_5 : decode cX11_mix 5 = .ok (.getfield 295, 3) := by decide +kernel
theorem dX11_mix_8 : decode cX11_mix 8 = .ok (.lmul, 1) := by decide +kernel
theorem dX11_mix_9 : decode cX11_mix 9 = .ok (.iload_n 1, 1) := by decide +kernel
theorem dX11_mix_10 : decode cX11_mix 10 = .ok (.i2l, 1) := by decide +kernel
theorem dX11_mix_11 : decode cX11_mix 11 = .ok (.ladd, 1) := by decide +kernel
theorem dX11_mix_12 : decode cX11_mix 12 = .ok (.putfield 295, 3) := by decide +kernel
theorem dX11_mix_15 : decode cX11_mix 15 = .ok (.return_, 1) := by decide +kernel
theorem dX11_digest_0 : decode cX11_digest 0 = .ok (.aload_n 0, 1) := by decide +kernel
theorem dX11_digest_1 : decode cX11_digest 1 = .ok (.ldc2_w 299, 3) := by decide +kernel
theorem dX11_digest_4 : decode cX11_digest 4 = .ok (.putfield 295, 3) := by decide +kernel
theorem dX11_digest_7 : decode cX11_digest 7 = .ok (.iconst 0, 1) := by decide +kernel
theorem dX11_digest_8 : decode cX11_digest 8 = .ok (.istore_n 1, 1) := by decide +kernel
theorem dX11_digest_9 : decode cX11_digest 9 = .ok (.iload_n 1, 1) := by decide +kernel
theorem dX11_digest_10 : decode cX11_digest 10 = .ok (.bipush 8, 2) := by decide +kernel
theorem dX11_digest_12 : decode cX11_digest 12 = .ok (.if_icmp .ge 18, 3) := by decide +kernel
theorem dX11_digest_15 : decode cX11_digest 15 = .ok (.aload_n 0, 1) := by decide +kernel
theorem dX11_digest_16 : decode cX11_digest 16 = .ok (.aload_n 0, 1) := by decide +kernel
theorem dX11_digest_17 : decode cX11_digest 17 = .ok (.iload_n 1, 1) := by decide +kernel
theorem dX11_digest_18 : decode cX11_digest 18 = .ok (.invokevirtual 290, 3) := by decide +kernel
theorem dX11_digest_21 : decode cX11_digest 21 = .ok (.invokevirtual 301, 3) := by decide +kernel
theorem dX11_digest_24 : decode cX11_digest 24 = .ok (.iinc 1 1, 3) := by decide +kernel
theorem dX11_digest_27 : decode cX11_digest 27 = .ok (.goto (-18), 3) := by decide +kernel
theorem dX11_digest_30 : decode cX11_digest 30 = .ok (.aload_n 0, 1) := by decide +kernel
theorem dX11_digest_31 : decode cX11_digest 31 = .ok (.aload_n 0, 1) := by decide +kernel
theorem dX11_digest_32 : decode cX11_digest 32 = .ok (.getfield 284, 3) := by decide +kernel
theorem dX11_digest_35 : decode cX11_digest 35 = .ok (.invokevirtual 301, 3) := by decide +kernel
theorem dX11_digest_38 : decode cX11_digest 38 = .ok (.aload_n 0, 1) := by decide +kernel
theorem dX11_digest_39 : decode cX11_digest 39 = .ok (.aload_n 0, 1) := by decide +kernel
theorem dX11_digest_40 : decode cX11_digest 40 = .ok (.getfield 25, 3) := by decide +kernel
theorem dX11_digest_43 : decode cX11_digest 43 = .ok (.invokevirtual 301, 3) := by decide +kernel
theorem dX11_digest_46 : decode cX11_digest 46 = .ok (.iconst 0, 1) := by decide +kernel
theorem dX11_digest_47 : decode cX11_digest 47 = .ok (.istore_n 1, 1) := by decide +kernel
theorem dX11_digest_48 : decode cX11_digest 48 = .ok (.iload_n 1, 1) := by decide +kernel
theorem dX11_digest_49 : decode cX11_digest 49 = .ok (.aload_n 0, 1) := by decide +kernel
theorem dX11_digest_50 : decode cX11_digest 50 = .ok (.getfield 7, 3) := by decide +kernel
theorem dX11_digest_53 : decode cX11_digest 53 = .ok (.bipush 37, 2) := by decide +kernel
theorem dX11_digest_55 : decode cX11_digest 55 = .ok (.iaload, 1) := by decide +kernel
theorem dX11_digest_56 : decode cX11_digest 56 = .ok (.if_icmp .ge 45, 3) := by decide +kernel
theorem dX11_digest_59 : decode cX11_digest 59 = .ok (.iconst 0, 1) := by decide +kernel
theorem dX11_digest_60 : decode cX11_digest 60 = .ok (.istore_n 2, 1) := by decide +kernel
theorem dX11_digest_61 : decode cX11_digest 61 = .ok (.iload_n 2, 1) := by decide +kernel
theorem dX11_digest_62 : decode cX11_digest 62 = .ok (.aload_n 0, 1) := by decide +kernel
theorem dX11_digest_63 : decode cX11_digest 63 = .ok (.getfield 7, 3) := by decide +kernel
theorem dX11_digest_66 : decode cX11_digest 66 = .ok (.bipush 36, 2) := by decide +kernel
theorem dX11_digest_68 : decode cX11_digest 68 = .ok (.iaload, 1) := by decide +kernel
theorem dX11_digest_69 : decode cX11_digest 69 = .ok (.if_icmp .ge 26, 3) := by decide +kernel
theorem dX11_digest_72 : decode cX11_digest 72 = .ok (.aload_n 0, 1) := by decide +kernel
theorem dX11_digest_73 : decode cX11_digest 73 = .ok (.aload_n 0, 1) := by decide +kernel
theorem dX11_digest_74 : decode cX11_digest 74 = .ok (.getfield 7, 3) := by decide +kernel
theorem dX11_digest_77 : decode cX11_digest 77 = .ok (.iconst 4, 1) := by decide +kernel
theorem dX11_digest_78 : decode cX11_digest 78 = .ok (.iload_n 1, 1) := by decide +kernel
theorem dX11_digest_79 : decode cX11_digest 79 = .ok (.imul, 1) := by decide +kernel
theorem dX11_digest_80 : decode cX11_digest 80 = .ok (.iload_n 2, 1) := by decide +kernel
theorem dX11_digest_81 : decode cX11_digest 81 = .ok (.iadd, 1) := by decide +kernel
theorem dX11_digest_82 : decode cX11_digest 82 = .ok (.iaload, 1) := by decide +kernel
theorem dX11_digest_83 : decode cX11_digest 83 = .ok (.bipush 10, 2) := by decide +kernel
theorem dX11_digest_85 : decode cX11_digest 85 = .ok (.iadd, 1) := by decide +kernel
theorem dX11_digest_86 : decode cX11_digest 86 = .ok (.invokevirtual 301, 3) := by decide +kernel
theorem dX11_digest_89 : decode cX11_digest 89 = .ok (.iinc 2 1, 3) := by decide +kernel
theorem dX11_digest_92 : decode cX11_digest 92 = .ok (.goto (-31), 3) := by decide +kernel
theorem dX11_digest_95 : decode cX11_digest 95 = .ok (.iinc 1 1, 3) := by decide +kernel
theorem dX11_digest_98 : decode cX11_digest 98 = .ok (.goto (-50), 3) := by decide +kernel
theorem dX11_digest_101 : decode cX11_digest 101 = .ok (.iconst 0, 1) := by decide +kernel
theorem dX11_digest_102 : decode cX11_digest 102 = .ok (.istore_n 1, 1) := by decide +kernel
theorem dX11_digest_103 : decode cX11_digest 103 = .ok (.iload_n 1, 1) := by decide +kernel
theorem dX11_digest_104 : decode cX11_digest 104 = .ok (.iconst 5, 1) := by decide +kernel
theorem dX11_digest_105 : decode cX11_digest 105 = .ok (.if_icmp .ge 19, 3) := by decide +kernel
theorem dX11_digest_108 : decode cX11_digest 108 = .ok (.aload_n 0, 1) := by decide +kernel
theorem dX11_digest_109 : decode cX11_digest 109 = .ok (.aload_n 0, 1) := by decide +kernel
theorem dX11_digest_110 : decode cX11_digest 110 = .ok (.iload_n 1, 1) := by decide +kernel
theorem dX11_digest_111 : decode cX11_digest 111 = .ok (.iconst (-1), 1) := by decide +kernel
theorem dX11_digest_112 : decode cX11_digest 112 = .ok (.invokevirtual 202, 3) := by decide +kernel
theorem dX11_digest_115 : decode cX11_digest 115 = .ok (.invokevirtual 301, 3) := by decide +kernel
theorem dX11_digest_118 : decode cX11_digest 118 = .ok (.iinc 1 1, 3) := by decide +kernel
theorem dX11_digest_121 : decode cX11_digest 121 = .ok (.goto (-18), 3) := by decide +kernel
theorem dX11_digest_124 : decode cX11_digest 124 = .ok (.iconst 0, 1) := by decide +kernel
theorem dX11_digest_125 : decode cX11_digest 125 = .ok (.istore_n 1, 1) := by decide +kernel
theorem dX11_digest_126 : decode cX11_digest 126 = .ok (.iload_n 1, 1) := by decide +kernel
theorem dX11_digest_127 : decode cX11_digest 127 = .ok (.iconst 5, 1) := by decide +kernel
theorem dX11_digest_128 : decode cX11_digest 128 = .ok (.if_icmp .ge 26, 3) := by decide +kernel
theorem dX11_digest_131 : decode cX11_digest 131 = .ok (.aload_n 0, 1) := by decide +kernel
theorem dX11_digest_132 : decode cX11_digest 132 = .ok (.aload_n 0, 1) := by decide +kernel
theorem dX11_digest_133 : decode cX11_digest 133 = .ok (.aload_n 0, 1) := by decide +kernel
theorem dX11_digest_134 : decode cX11_digest 134 = .ok (.invokevirtual 109, 3) := by decide +kernel
theorem dX11_digest_137 : decode cX11_digest 137 = .ok (.iload_n 1, 1) := by decide +kernel
theorem dX11_digest_138 : decode cX11_digest 138 = .ok (.invokevirtual 205, 3) := by decide +kernel
theorem dX11_digest_141 : decode cX11_digest 141 = .ok (.sipush 1000, 3) := by decide +kernel
theorem dX11_digest_144 : decode cX11_digest 144 = .ok (.iadd, 1) := by decide +kernel
theorem dX11_digest_145 : decode cX11_digest 145 = .ok (.invokevirtual 301, 3) := by decide +kernel
theorem dX11_digest_148 : decode cX11_digest 148 = .ok (.iinc 1 1, 3) := by decide +kernel
theorem dX11_digest_151 : decode cX11_digest 151 = .ok (.goto (-25), 3) := by decide +kernel
theorem dX11_digest_154 : decode cX11_digest 154 = .ok (.aload_n 0, 1) := by decide +kernel
theorem dX11_digest_155 : decode cX11_digest 155 = .ok (.aload_n 0, 1) := by decide +kernel
theorem dX11_digest_156 : decode cX11_digest 156 = .ok (.getfield 120, 3) := by decide +kernel
theorem dX11_digest_159 : decode cX11_digest 159 = .ok (.invokevirtual 301, 3) := by decide +kernel
theorem dX11_digest_162 : decode cX11_digest 162 = .ok (.aload_n 0, 1) := by decide +kernel
theorem dX11_digest_163 : decode cX11_digest 163 = .ok (.aload_n 0, 1) := by decide +kernel
theorem dX11_digest_164 : decode cX11_digest 164 = .ok (.invokevirtual 177, 3) := by decide +kernel
theorem dX11_digest_167 : decode cX11_digest 167 = .ok (.invokevirtual 301, 3) := by decide +kernel
theorem dX11_digest_170 : decode cX11_digest 170 = .ok (.iconst 0, 1) := by decide +kernel
theorem dX11_digest_171 : decode cX11_digest 171 = .ok (.istore_n 1, 1) := by decide +kernel
theorem dX11_digest_172 : decode cX11_digest 172 = .ok (.iload_n 1, 1) := by decide +kernel
theorem dX11_digest_173 : decode cX11_digest 173 = .ok (.iconst 5, 1) := by decide +kernel
theorem dX11_digest_174 : decode cX11_digest 174 = .ok (.if_icmp .ge 19, 3) := by decide +kernel
theorem dX11_digest_177 : decode cX11_digest 177 = .ok (.aload_n 0, 1) := by decide +kernel
theorem dX11_digest_178 : decode cX11_digest 178 = .ok (.aload_n 0, 1) := by decide +kernel
theorem dX11_digest_179 : decode cX11_digest 179 = .ok (.iload_n 1, 1) := by decide +kernel
theorem dX11_digest_180 : decode cX11_digest 180 = .ok (.iconst (-1), 1) := by decide +kernel
theorem dX11_digest_181 : decode cX11_digest 181 = .ok (.invokevirtual 237, 3) := by decide +kernel
theorem dX11_digest_184 : decode cX11_digest 184 = .ok (.invokevirtual 301, 3) := by decide +kernel
theorem dX11_digest_187 : decode cX11_digest 187 = .ok (.iinc 1 1, 3) := by decide +kernel
theorem dX11_digest_190 : decode cX11_digest 190 = .ok (.goto (-18), 3) := by decide +kernel
theorem dX11_digest_193 : decode cX11_digest 193 = .ok (.aload_n 0, 1) := by decide +kernel
theorem dX11_digest_194 : decode cX11_digest 194 = .ok (.getfield 295, 3) := by decide +kernel
theorem dX11_digest_197 : decode cX11_digest 197 = .ok (.lreturn, 1) := by decide +kernel
