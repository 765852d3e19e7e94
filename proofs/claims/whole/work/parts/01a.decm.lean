theorem dX11_init_0 : decode cX11_init 0 = .ok (.aload_n 0, 1) := by decide +kernel
theorem dX11_init_1 : decode cX11_init 1 = .ok (.invokespecial 1, 3) := by decide +kernel
theorem dX11_init_4 : decode cX11_init 4 = .ok (.aload_n 0, 1) := by decide +kernel
theorem dX11_init_5 : decode cX11_init 5 = .ok (.bipush 38, 2) := by decide +kernel
theorem dX11_init_7 : decode cX11_init 7 = .ok (.newarray .int, 2) := by decide +kernel
theorem dX11_init_9 : decode cX11_init 9 = .ok (.putfield 7, 3) := by decide +kernel
theorem dX11_init_12 : decode cX11_init 12 = .ok (.aload_n 0, 1) := by decide +kernel
theorem dX11_init_13 : decode cX11_init 13 = .ok (.bipush 38, 2) := by decide +kernel
theorem dX11_init_15 : decode cX11_init 15 = .ok (.newarray .int, 2) := by decide +kernel
theorem dX11_init_17 : decode cX11_init 17 = .ok (.putfield 13, 3) := by decide +kernel
theorem dX11_init_20 : decode cX11_init 20 = .ok (.aload_n 0, 1) := by decide +kernel
theorem dX11_init_21 : decode cX11_init 21 = .ok (.sipush 228, 3) := by decide +kernel
theorem dX11_init_24 : decode cX11_init 24 = .ok (.newarray .int, 2) := by decide +kernel
theorem dX11_init_26 : decode cX11_init 26 = .ok (.putfield 16, 3) := by decide +kernel
theorem dX11_init_29 : decode cX11_init 29 = .ok (.aload_n 0, 1) := by decide +kernel
theorem dX11_init_30 : decode cX11_init 30 = .ok (.iconst 3, 1) := by decide +kernel
theorem dX11_init_31 : decode cX11_init 31 = .ok (.newarray .int, 2) := by decide +kernel
theorem dX11_init_33 : decode cX11_init 33 = .ok (.putfield 19, 3) := by decide +kernel
theorem dX11_init_36 : decode cX11_init 36 = .ok (.aload_n 0, 1) := by decide +kernel
theorem dX11_init_37 : decode cX11_init 37 = .ok (.bipush 100, 2) := by decide +kernel
theorem dX11_init_39 : decode cX11_init 39 = .ok (.newarray .int, 2) := by decide +kernel
theorem dX11_init_41 : decode cX11_init 41 = .ok (.putfield 22, 3) := by decide +kernel
theorem dX11_init_44 : decode cX11_init 44 = .ok (.aload_n 0, 1) := by decide +kernel
theorem dX11_init_45 : decode cX11_init 45 = .ok (.iconst (-1), 1) := by decide +kernel
theorem dX11_init_46 : decode cX11_init 46 = .ok (.putfield 25, 3) := by decide +kernel
theorem dX11_init_49 : decode cX11_init 49 = .ok (.aload_n 0, 1) := by decide +kernel
theorem dX11_init_50 : decode cX11_init 50 = .ok (.sipush 512, 3) := by decide +kernel
theorem dX11_init_53 : decode cX11_init 53 = .ok (.newarray .int, 2) := by decide +kernel
theorem dX11_init_55 : decode cX11_init 55 = .ok (.putfield 29, 3) := by decide +kernel
theorem dX11_init_58 : decode cX11_init 58 = .ok (.aload_n 0, 1) := by decide +kernel
theorem dX11_init_59 : decode cX11_init 59 = .ok (.bipush 36, 2) := by decide +kernel
theorem dX11_init_61 : decode cX11_init 61 = .ok (.newarray .long, 2) := by decide +kernel
theorem dX11_init_63 : decode cX11_init 63 = .ok (.putfield 32, 3) := by decide +kernel
theorem dX11_init_66 : decode cX11_init 66 = .ok (.aload_n 0, 1) := by decide +kernel
theorem dX11_init_67 : decode cX11_init 67 = .ok (.sipush 400, 3) := by decide +kernel
theorem dX11_init_70 : decode cX11_init 70 = .ok (.newarray .int, 2) := by decide +kernel
theorem dX11_init_72 : decode cX11_init 72 = .ok (.putfield 36, 3) := by decide +kernel
theorem dX11_init_75 : decode cX11_init 75 = .ok (.aload_n 0, 1) := by decide +kernel
theorem dX11_init_76 : decode cX11_init 76 = .ok (.sipush 400, 3) := by decide +kernel
theorem dX11_init_79 : decode cX11_init 79 = .ok (.newarray .int, 2) := by decide +kernel
theorem dX11_init_81 : decode cX11_init 81 = .ok (.putfield 39, 3) := by decide +kernel
theorem dX11_init_84 : decode cX11_init 84 = .ok (.aload_n 0, 1) := by decide +kernel
theorem dX11_init_85 : decode cX11_init 85 = .ok (.bipush 9, 2) := by decide +kernel
theorem dX11_init_87 : decode cX11_init 87 = .ok (.newarray .long, 2) := by decide +kernel
theorem dX11_init_89 : decode cX11_init 89 = .ok (.putfield 42, 3) := by decide +kernel
theorem dX11_init_92 : decode cX11_init 92 = .ok (.aload_n 0, 1) := by decide +kernel
theorem dX11_init_93 : decode cX11_init 93 = .ok (.bipush 9, 2) := by decide +kernel
theorem dX11_init_95 : decode cX11_init 95 = .ok (.newarray .int, 2) := by decide +kernel
theorem dX11_init_97 : decode cX11_init 97 = .ok (.putfield 45, 3) := by decide +kernel
theorem dX11_init_100 : decode cX11_init 100 = .ok (.aload_n 0, 1) := by decide +kernel
theorem dX11_init_101 : decode cX11_init 101 = .ok (.bipush 20, 2) := by decide +kernel
theorem dX11_init_103 : decode cX11_init 103 = .ok (.newarray .long, 2) := by decide +kernel
theorem dX11_init_105 : decode cX11_init 105 = .ok (.putfield 48, 3) := by decide +kernel
theorem dX11_init_108 : decode cX11_init 108 = .ok (.aload_n 0, 1) := by decide +kernel
theorem dX11_init_109 : decode cX11_init 109 = .ok (.iconst 4, 1) := by decide +kernel
theorem dX11_init_110 : decode cX11_init 110 = .ok (.newarray .int, 2) := by decide +kernel
theorem dX11_init_112 : decode cX11_init 112 = .ok (.putfield 51, 3) := by decide +kernel
theorem dX11_init_115 : decode cX11_init 115 = .ok (.aload_n 0, 1) := by decide +kernel
theorem dX11_init_116 : decode cX11_init 116 = .ok (.sipush 512, 3) := by decide +kernel
theorem dX11_init_119 : decode cX11_init 119 = .ok (.newarray .int, 2) := by decide +kernel
theorem dX11_init_121 : decode cX11_init 121 = .ok (.putfield 54, 3) := by decide +kernel
theorem dX11_init_124 : decode cX11_init 124 = .ok (.aload_n 0, 1) := by decide +kernel
theorem dX11_init_125 : decode cX11_init 125 = .ok (.sipush 512, 3) := by decide +kernel
theorem dX11_init_128 : decode cX11_init 128 = .ok (.newarray .int, 2) := by decide +kernel
theorem dX11_init_130 : decode cX11_init 130 = .ok (.putfield 57, 3) := by decide +kernel
theorem dX11_init_133 : decode cX11_init 133 = .ok (.aload_n 0, 1) := by decide +kernel
theorem dX11_init_134 : decode cX11_init 134 = .ok (.sipush 512, 3) := by decide +kernel
theorem dX11_init_137 : decode cX11_init 137 = .ok (.newarray .int, 2) := by decide +kernel
theorem dX11_init_139 : decode cX11_init 139 = .ok (.putfield 60, 3) := by decide +kernel
theorem dX11_init_142 : decode cX11_init 142 = .ok (.aload_n 0, 1) := by decide +kernel
theorem dX11_init_143 : decode cX11_init 143 = .ok (.sipush 512, 3) := by decide +kernel
theorem dX11_init_146 : decode cX11_init 146 = .ok (.newarray .int, 2) := by decide +kernel
theorem dX11_init_148 : decode cX11_init 148 = .ok (.putfield 63, 3) := by decide +kernel
theorem dX11_init_151 : decode cX11_init 151 = .ok (.aload_n 0, 1) := by decide +kernel
theorem dX11_init_152 : decode cX11_init 152 = .ok (.sipush 512, 3) := by decide +kernel
theorem dX11_init_155 : decode cX11_init 155 = .ok (.newarray .boolean, 2) := by decide +kernel
theorem dX11_init_157 : decode cX11_init 157 = .ok (.putfield 66, 3) := by decide +kernel
theorem dX11_init_160 : decode cX11_init 160 = .ok (.aload_n 0, 1) := by decide +kernel
theorem dX11_init_161 : decode cX11_init 161 = .ok (.iconst 5, 1) := by decide +kernel
theorem dX11_init_162 : decode cX11_init 162 = .ok (.newarray .int, 2) := by decide +kernel
theorem dX11_init_164 : decode cX11_init 164 = .ok (.putfield 70, 3) := by decide +kernel
theorem dX11_init_167 : decode cX11_init 167 = .ok (.aload_n 0, 1) := by decide +kernel
theorem dX11_init_168 : decode cX11_init 168 = .ok (.sipush 512, 3) := by decide +kernel
theorem dX11_init_171 : decode cX11_init 171 = .ok (.newarray .int, 2) := by decide +kernel
theorem dX11_init_173 : decode cX11_init 173 = .ok (.putfield 73, 3) := by decide +kernel
theorem dX11_init_176 : decode cX11_init 176 = .ok (.aload_n 0, 1) := by decide +kernel
theorem dX11_init_177 : decode cX11_init 177 = .ok (.bipush 50, 2) := by decide +kernel
theorem dX11_init_179 : decode cX11_init 179 = .ok (.newarray .int, 2) := by decide +kernel
theorem dX11_init_181 : decode cX11_init 181 = .ok (.putfield 76, 3) := by decide +kernel
theorem dX11_init_184 : decode cX11_init 184 = .ok (.aload_n 0, 1) := by decide +kernel
theorem dX11_init_185 : decode cX11_init 185 = .ok (.sipush 200, 3) := by decide +kernel
theorem dX11_init_188 : decode cX11_init 188 = .ok (.newarray .int, 2) := by decide +kernel
theorem dX11_init_190 : decode cX11_init 190 = .ok (.putfield 79, 3) := by decide +kernel
theorem dX11_init_193 : decode cX11_init 193 = .ok (.aload_n 0, 1) := by decide +kernel
theorem dX11_init_194 : decode cX11_init 194 = .ok (.getfield 7, 3) := by decide +kernel
theorem dX11_init_197 : decode cX11_init 197 = .ok (.bipush 36, 2) := by decide +kernel
theorem dX11_init_199 : decode cX11_init 199 = .ok (.iconst 3, 1) := by decide +kernel
theorem dX11_init_200 : decode cX11_init 200 = .ok (.iastore, 1) := by decide +kernel
theorem dX11_init_201 : decode cX11_init 201 = .ok (.return_, 1) := by decide +kernel
theorem dX11_in_0 : decode cX11_in 0 = .ok (.iload_n 0, 1) := by decide +kernel
theorem dX11_in_1 : decode cX11_in 1 = .ok (.iload_n 1, 1) := by decide +kernel
theorem dX11_in_2 : decode cX11_in 2 = .ok (.if_icmp .lt 12, 3) := by decide +kernel
theorem dX11_in_5 : decode cX11_in 5 = .ok (.iload_n 0, 1) := by decide +kernel
theorem dX11_in_6 : decode cX11_in 6 = .ok (.iload_n 2, 1) := by decide +kernel
theorem dX11_in_7 : decode cX11_in 7 = .ok (.if_icmp .gt 7, 3) := by decide +kernel
theorem dX11_in_10 : decode cX11_in 10 = .ok (.iconst 1, 1) := by decide +kernel
theorem dX11_in_11 : decode cX11_in 11 = .ok (.goto 4, 3) := by decide +kernel
theorem dX11_in_14 : decode cX11_in 14 = .ok (.iconst 0, 1) := by decide +kernel
theorem dX11_in_15 : decode cX11_in 15 = .ok (.ireturn, 1) := by decide +kernel
theorem dX11_has_0 : decode cX11_has 0 = .ok (.iload_n 0, 1) := by decide +kernel
theorem dX11_has_1 : decode cX11_has 1 = .ok (.iload_n 1, 1) := by decide +kernel
theorem dX11_has_2 : decode cX11_has 2 = .ok (.ishr, 1) := by decide +kernel
theorem dX11_has_3 : decode cX11_has 3 = .ok (.iconst 1, 1) := by decide +kernel
theorem dX11_has_4 : decode cX11_has 4 = .ok (.iand, 1) := by decide +kernel
theorem dX11_has_5 : decode cX11_has 5 = .ok (.iconst 1, 1) := by decide +kernel
theorem dX11_has_6 : decode cX11_has 6 = .ok (.if_icmp .ne 7, 3) := by decide +kernel
theorem dX11_has_9 : decode cX11_has 9 = .ok (.iconst 1, 1) := by decide +kernel
theorem dX11_has_10 : decode cX11_has 10 = .ok (.goto 4, 3) := by decide +kernel
theorem dX11_has_13 : decode cX11_has 13 = .ok (.iconst 0, 1) := by decide +kernel
theorem dX11_has_14 : decode cX11_has 14 = .ok (.ireturn, 1) := by decide +kernel
theorem dX11_bits_0 : decode cX11_bits 0 = .ok (.iconst 0, 1) := by decide +kernel
theorem dX11_bits_1 : decode cX11_bits 1 = .ok (.istore_n 1, 1) := by decide +kernel
theorem dX11_bits_2 : decode cX11_bits 2 = .ok (.iload_n 0, 1) := by decide +kernel
theorem dX11_bits_3 : decode cX11_bits 3 = .ok (.istore_n 2, 1) := by decide +kernel
theorem dX11_bits_4 : decode cX11_bits 4 = .ok (.iload_n 2, 1) := by decide +kernel
theorem dX11_bits_5 : decode cX11_bits 5 = .ok (.ifCond .eq 15, 3) := by decide +kernel
theorem dX11_bits_8 : decode cX11_bits 8 = .ok (.iinc 1 1, 3) := by decide +kernel
theorem dX11_bits_11 : decode cX11_bits 11 = .ok (.iload_n 2, 1) := by decide +kernel
theorem dX11_bits_12 : decode cX11_bits 12 = .ok (.iload_n 2, 1) := by decide +kernel
theorem dX11_bits_13 : decode cX11_bits 13 = .ok (.iconst 1, 1) := by decide +kernel
theorem dX11_bits_14 : decode cX11_bits 14 = .ok (.isub, 1) := by decide +kernel
theorem dX11_bits_15 : decode cX11_bits 15 = .ok (.iand, 1) := by decide +kernel
theorem dX11_bits_16 : decode cX11_bits 16 = .ok (.istore_n 2, 1) := by decide +kernel
theorem dX11_bits_17 : decode cX11_bits 17 = .ok (.goto (-13), 3) := by decide +kernel
theorem dX11_bits_20 : decode cX11_bits 20 = .ok (.iload_n 1, 1) := by decide +kernel
theorem dX11_bits_21 : decode cX11_bits 21 = .ok (.ireturn, 1) := by decide +kernel
theorem dX11_refuses_0 : decode cX11_refuses 0 = .ok (.aload_n 0, 1) := by decide +kernel
theorem dX11_refuses_1 : decode cX11_refuses 1 = .ok (.getfield 19, 3) := by decide +kernel
theorem dX11_refuses_4 : decode cX11_refuses 4 = .ok (.bipush (-2), 2) := by decide +kernel
theorem dX11_refuses_6 : decode cX11_refuses 6 = .ok (.iload_n 1, 1) := by decide +kernel
theorem dX11_refuses_7 : decode cX11_refuses 7 = .ok (.isub, 1) := by decide +kernel
theorem dX11_refuses_8 : decode cX11_refuses 8 = .ok (.dup2, 1) := by decide +kernel
theorem dX11_refuses_9 : decode cX11_refuses 9 = .ok (.iaload, 1) := by decide +kernel
theorem dX11_refuses_10 : decode cX11_refuses 10 = .ok (.iconst 1, 1) := by decide +kernel
theorem dX11_refuses_11 : decode cX11_refuses 11 = .ok (.iadd, 1) := by decide +kernel
theorem dX11_refuses_12 : decode cX11_refuses 12 = .ok (.iastore, 1) := by decide +kernel
theorem dX11_refuses_13 : decode cX11_refuses 13 = .ok (.iload_n 1, 1) := by decide +kernel
theorem dX11_refuses_14 : decode cX11_refuses 14 = .ok (.ireturn, 1) := by decide +kernel
theorem dX11_hold_0 : decode cX11_hold 0 = .ok (.iconst 0, 1) := by decide +kernel
theorem dX11_hold_1 : decode cX11_hold 1 = .ok (.istore_n 1, 1) := by decide +kernel
theorem dX11_hold_2 : decode cX11_hold 2 = .ok (.iload_n 1, 1) := by decide +kernel
theorem dX11_hold_3 : decode cX11_hold 3 = .ok (.bipush 38, 2) := by decide +kernel
theorem dX11_hold_5 : decode cX11_hold 5 = .ok (.if_icmp .ge 21, 3) := by decide +kernel
theorem dX11_hold_8 : decode cX11_hold 8 = .ok (.aload_n 0, 1) := by decide +kernel
theorem dX11_hold_9 : decode cX11_hold 9 = .ok (.getfield 13, 3) := by decide +kernel
theorem dX11_hold_12 : decode cX11_hold 12 = .ok (.iload_n 1, 1) := by decide +kernel
theorem dX11_hold_13 : decode cX11_hold 13 = .ok (.aload_n 0, 1) := by decide +kernel
theorem dX11_hold_14 : decode cX11_hold 14 = .ok (.getfield 7, 3) := by decide +kernel
theorem dX11_hold_17 : decode cX11_hold 17 = .ok (.iload_n 1, 1) := by decide +kernel
theorem dX11_hold_18 : decode cX11_hold 18 = .ok (.iaload, 1) := by decide +kernel
theorem dX11_hold_19 : decode cX11_hold 19 = .ok (.iastore, 1) := by decide +kernel
theorem dX11_hold_20 : decode cX11_hold 20 = .ok (.iinc 1 1, 3) := by decide +kernel
theorem dX11_hold_23 : decode cX11_hold 23 = .ok (.goto (-21), 3) := by decide +kernel
theorem dX11_hold_26 : decode cX11_hold 26 = .ok (.return_, 1) := by decide +kernel
theorem dX11_push_0 : decode cX11_push 0 = .ok (.aload_n 0, 1) := by decide +kernel
theorem dX11_push_1 : decode cX11_push 1 = .ok (.getfield 82, 3) := by decide +kernel
theorem dX11_push_4 : decode cX11_push 4 = .ok (.bipush 6, 2) := by decide +kernel
theorem dX11_push_6 : decode cX11_push 6 = .ok (.if_icmp .ne 43, 3) := by decide +kernel
theorem dX11_push_9 : decode cX11_push 9 = .ok (.iconst 0, 1) := by decide +kernel
theorem dX11_push_10 : decode cX11_push 10 = .ok (.istore_n 1, 1) := by decide +kernel
theorem dX11_push_11 : decode cX11_push 11 = .ok (.iload_n 1, 1) := by decide +kernel
theorem dX11_push_12 : decode cX11_push 12 = .ok (.sipush 190, 3) := by decide +kernel
theorem dX11_push_15 : decode cX11_push 15 = .ok (.if_icmp .ge 24, 3) := by decide +kernel
theorem dX11_push_18 : decode cX11_push 18 = .ok (.aload_n 0, 1) := by decide +kernel
theorem dX11_push_19 : decode cX11_push 19 = .ok (.getfield 16, 3) := by decide +kernel
theorem dX11_push_22 : decode cX11_push 22 = .ok (.iload_n 1, 1) := by decide +kernel
theorem dX11_push_23 : decode cX11_push 23 = .ok (.aload_n 0, 1) := by decide +kernel
theorem dX11_push_24 : decode cX11_push 24 = .ok (.getfield 16, 3) := by decide +kernel
theorem dX11_push_27 : decode cX11_push 27 = .ok (.iload_n 1, 1) := by decide +kernel
theorem dX11_push_28 : decode cX11_push 28 = .ok (.bipush 38, 2) := by decide +kernel
theorem dX11_push_30 : decode cX11_push 30 = .ok (.iadd, 1) := by decide +kernel
theorem dX11_push_31 : decode cX11_push 31 = .ok (.iaload, 1) := by decide +kernel
theorem dX11_push_32 : decode cX11_push 32 = .ok (.iastore, 1) := by decide +kernel
theorem dX11_push_33 : decode cX11_push 33 = .ok (.iinc 1 1, 3) := by decide +kernel
theorem dX11_push_36 : decode cX11_push 36 = .ok (.goto (-25), 3) := by decide +kernel
theorem dX11_push_39 : decode cX11_push 39 = .ok (.aload_n 0, 1) := by decide +kernel
theorem dX11_push_40 : decode cX11_push 40 = .ok (.dup, 1) := by decide +kernel
theorem dX11_push_41 : decode cX11_push 41 = .ok (.getfield 82, 3) := by decide +kernel
theorem dX11_push_44 : decode cX11_push 44 = .ok (.iconst 1, 1) := by decide +kernel
theorem dX11_push_45 : decode cX11_push 45 = .ok (.isub, 1) := by decide +kernel
theorem dX11_push_46 : decode cX11_push 46 = .ok (.putfield 82, 3) := by decide +kernel
theorem dX11_push_49 : decode cX11_push 49 = .ok (.iconst 0, 1) := by decide +kernel
theorem dX11_push_50 : decode cX11_push 50 = .ok (.istore_n 1, 1) := by decide +kernel
theorem dX11_push_51 : decode cX11_push 51 = .ok (.iload_n 1, 1) := by decide +kernel
theorem dX11_push_52 : decode cX11_push 52 = .ok (.bipush 38, 2) := by decide +kernel
theorem dX11_push_54 : decode cX11_push 54 = .ok (.if_icmp .ge 29, 3) := by decide +kernel
theorem dX11_push_57 : decode cX11_push 57 = .ok (.aload_n 0, 1) := by decide +kernel
theorem dX11_push_58 : decode cX11_push 58 = .ok (.getfield 16, 3) := by decide +kernel
theorem dX11_push_61 : decode cX11_push 61 = .ok (.bipush 38, 2) := by decide +kernel
theorem dX11_push_63 : decode cX11_push 63 = .ok (.aload_n 0, 1) := by decide +kernel
theorem dX11_push_64 : decode cX11_push 64 = .ok (.getfield 82, 3) := by decide +kernel
theorem dX11_push_67 : decode cX11_push 67 = .ok (.imul, 1) := by decide +kernel
theorem dX11_push_68 : decode cX11_push 68 = .ok (.iload_n 1, 1) := by decide +kernel
theorem dX11_push_69 : decode cX11_push 69 = .ok (.iadd, 1) := by decide +kernel
theorem dX11_push_70 : decode cX11_push 70 = .ok (.aload_n 0, 1) := by decide +kernel
theorem dX11_push_71 : decode cX11_push 71 = .ok (.getfield 13, 3) := by decide +kernel
theorem dX11_push_74 : decode cX11_push 74 = .ok (.iload_n 1, 1) := by decide +kernel
theorem dX11_push_75 : decode cX11_push 75 = .ok (.iaload, 1) := by decide +kernel
theorem dX11_push_76 : decode cX11_push 76 = .ok (.iastore, 1) := by decide +kernel
theorem dX11_push_77 : decode cX11_push 77 = .ok (.iinc 1 1, 3) := by decide +kernel
theorem dX11_push_80 : decode cX11_push 80 = .ok (.goto (-29), 3) := by decide +kernel
theorem dX11_push_83 : decode cX11_push 83 = .ok (.aload_n 0, 1) := by decide +kernel
theorem dX11_push_84 : decode cX11_push 84 = .ok (.dup, 1) := by decide +kernel
theorem dX11_push_85 : decode cX11_push 85 = .ok (.getfield 82, 3) := by decide +kernel
theorem dX11_push_88 : decode cX11_push 88 = .ok (.iconst 1, 1) := by decide +kernel
theorem dX11_push_89 : decode cX11_push 89 = .ok (.iadd, 1) := by decide +kernel
theorem dX11_push_90 : decode cX11_push 90 = .ok (.putfield 82, 3) := by decide +kernel
theorem dX11_push_93 : decode cX11_push 93 = .ok (.aload_n 0, 1) := by decide +kernel
theorem dX11_push_94 : decode cX11_push 94 = .ok (.iconst 0, 1) := by decide +kernel
theorem dX11_push_95 : decode cX11_push 95 = .ok (.putfield 85, 3) := by decide +kernel
theorem dX11_push_98 : decode cX11_push 98 = .ok (.return_, 1) := by decide +kernel
theorem dX11_back_0 : decode cX11_back 0 = .ok (.aload_n 0, 1) := by decide +kernel
theorem dX11_back_1 : decode cX11_back 1 = .ok (.getfield 82, 3) := by decide +kernel
theorem dX11_back_4 : decode cX11_back 4 = .ok (.ifCond .ne 10, 3) := by decide +kernel
theorem dX11_back_7 : decode cX11_back 7 = .ok (.aload_n 0, 1) := by decide +kernel
theorem dX11_back_8 : decode cX11_back 8 = .ok (.bipush (-3), 2) := by decide +kernel
theorem dX11_back_10 : decode cX11_back 10 = .ok (.invokevirtual 89, 3) := by decide +kernel
theorem dX11_back_13 : decode cX11_back 13 = .ok (.ireturn, 1) := by decide +kernel
theorem dX11_back_14 : decode cX11_back 14 = .ok (.aload_n 0, 1) := by decide +kernel
theorem dX11_back_15 : decode cX11_back 15 = .ok (.dup, 1) := by decide +kernel
theorem dX11_back_16 : decode cX11_back 16 = .ok (.getfield 82, 3) := by decide +kernel
theorem dX11_back_19 : decode cX11_back 19 = .ok (.iconst 1, 1) := by decide +kernel
theorem dX11_back_20 : decode cX11_back 20 = .ok (.isub, 1) := by decide +kernel
theorem dX11_back_21 : decode cX11_back 21 = .ok (.putfield 82, 3) := by decide +kernel
theorem dX11_back_24 : decode cX11_back 24 = .ok (.iconst 0, 1) := by decide +kernel
theorem dX11_back_25 : decode cX11_back 25 = .ok (.istore_n 1, 1) := by decide +kernel
theorem dX11_back_26 : decode cX11_back 26 = .ok (.iload_n 1, 1) := by decide +kernel
theorem dX11_back_27 : decode cX11_back 27 = .ok (.bipush 38, 2) := by decide +kernel
theorem dX11_back_29 : decode cX11_back 29 = .ok (.if_icmp .ge 29, 3) := by decide +kernel
theorem dX11_back_32 : decode cX11_back 32 = .ok (.aload_n 0, 1) := by decide +kernel
theorem dX11_back_33 : decode cX11_back 33 = .ok (.getfield 7, 3) := by decide +kernel
theorem dX11_back_36 : decode cX11_back 36 = .ok (.iload_n 1, 1) := by decide +kernel
theorem dX11_back_37 : decode cX11_back 37 = .ok (.aload_n 0, 1) := by decide +kernel
theorem dX11_back_38 : decode cX11_back 38 = .ok (.getfield 16, 3) := by decide +kernel
theorem dX11_back_41 : decode cX11_back 41 = .ok (.bipush 38, 2) := by decide +kernel
theorem dX11_back_43 : decode cX11_back 43 = .ok (.aload_n 0, 1) := by decide +kernel
theorem dX11_back_44 : decode cX11_back 44 = .ok (.getfield 82, 3) := by decide +kernel
theorem dX11_back_47 : decode cX11_back 47 = .ok (.imul, 1) := by decide +kernel
theorem dX11_back_48 : decode cX11_back 48 = .ok (.iload_n 1, 1) := by decide +kernel
theorem dX11_back_49 : decode cX11_back 49 = .ok (.iadd, 1) := by decide +kernel
theorem dX11_back_50 : decode cX11_back 50 = .ok (.iaload, 1) := by decide +kernel
theorem dX11_back_51 : decode cX11_back 51 = .ok (.iastore, 1) := by decide +kernel
theorem dX11_back_52 : decode cX11_back 52 = .ok (.iinc 1 1, 3) := by decide +kernel
theorem dX11_back_55 : decode cX11_back 55 = .ok (.goto (-29), 3) := by decide +kernel
theorem dX11_back_58 : decode cX11_back 58 = .ok (.aload_n 0, 1) := by decide +kernel
theorem dX11_back_59 : decode cX11_back 59 = .ok (.iconst 0, 1) := by decide +kernel
theorem dX11_back_60 : decode cX11_back 60 = .ok (.putfield 85, 3) := by decide +kernel
theorem dX11_back_63 : decode cX11_back 63 = .ok (.aload_n 0, 1) := by decide +kernel
theorem dX11_back_64 : decode cX11_back 64 = .ok (.getfield 82, 3) := by decide +kernel
theorem dX11_back_67 : decode cX11_back 67 = .ok (.ireturn, 1) := by decide +kernel
theorem dX11_common_0 : decode cX11_common 0 = .ok (.lload_n 0, 1) := by decide +kernel
theorem dX11_common_1 : decode cX11_common 1 = .ok (.lconst 0, 1) := by decide +kernel
theorem dX11_common_2 : decode cX11_common 2 = .ok (.lcmp, 1) := by decide +kernel
theorem dX11_common_3 : decode cX11_common 3 = .ok (.ifCond .ge 8, 3) := by decide +kernel
theorem dX11_common_6 : decode cX11_common 6 = .ok (.lload_n 0, 1) := by decide +kernel
theorem dX11_common_7 : decode cX11_common 7 = .ok (.lneg, 1) := by decide +kernel
theorem dX11_common_8 : decode cX11_common 8 = .ok (.goto 4, 3) := by decide +kernel
theorem dX11_common_11 : decode cX11_common 11 = .ok (.lload_n 0, 1) := by decide +kernel
theorem dX11_common_12 : decode cX11_common 12 = .ok (.lstore 4, 2) := by decide +kernel
theorem dX11_common_14 : decode cX11_common 14 = .ok (.lload_n 2, 1) := by decide +kernel
theorem dX11_common_15 : decode cX11_common 15 = .ok (.lconst 0, 1) := by decide +kernel
theorem dX11_common_16 : decode cX11_common 16 = .ok (.lcmp, 1) := by decide +kernel
theorem dX11_common_17 : decode cX11_common 17 = .ok (.ifCond .ge 8, 3) := by decide +kernel
theorem dX11_common_20 : decode cX11_common 20 = .ok (.lload_n 2, 1) := by decide +kernel
theorem dX11_common_21 : decode cX11_common 21 = .ok (.lneg, 1) := by decide +kernel
theorem dX11_common_22 : decode cX11_common 22 = .ok (.goto 4, 3) := by decide +kernel
theorem dX11_common_25 : decode cX11_common 25 = .ok (.lload_n 2, 1) := by decide +kernel
theorem dX11_common_26 : decode cX11_common 26 = .ok (.lstore 6, 2) := by decide +kernel
theorem dX11_common_28 : decode cX11_common 28 = .ok (.lload 6, 2) := by decide +kernel
theorem dX11_common_30 : decode cX11_common 30 = .ok (.lconst 0, 1) := by decide +kernel
theorem dX11_common_31 : decode cX11_common 31 = .ok (.lcmp, 1) := by decide +kernel
theorem dX11_common_32 : decode cX11_common 32 = .ok (.ifCond .eq 21, 3) := by decide +kernel
theorem dX11_common_35 : decode cX11_common 35 = .ok (.lload 4, 2) := by decide +kernel
theorem dX11_common_37 : decode cX11_common 37 = .ok (.lload 6, 2) := by decide +kernel
theorem dX11_common_39 : decode cX11_common 39 = .ok (.lrem, 1) := by decide +kernel
theorem dX11_common_40 : decode cX11_common 40 = .ok (.lstore 8, 2) := by decide +kernel
theorem dX11_common_42 : decode cX11_common 42 = .ok (.lload 6, 2) := by decide +kernel
theorem dX11_common_44 : decode cX11_common 44 = .ok (.lstore 4, 2) := by decide +kernel
theorem dX11_common_46 : decode cX11_common 46 = .ok (.lload 8, 2) := by decide +kernel
theorem dX11_common_48 : decode cX11_common 48 = .ok (.lstore 6, 2) := by decide +kernel
theorem dX11_common_50 : decode cX11_common 50 = .ok (.goto (-22), 3) := by decide +kernel
theorem dX11_common_53 : decode cX11_common 53 = .ok (.lload 4, 2) := by decide +kernel
theorem dX11_common_55 : decode cX11_common 55 = .ok (.lreturn, 1) := by decide +kernel
theorem dX11_shrink_0 : decode cX11_shrink 0 = .ok (.lconst 0, 1) := by decide +kernel
theorem dX11_shrink_1 : decode cX11_shrink 1 = .ok (.lstore_n 2, 1) := by decide +kernel
theorem dX11_shrink_2 : decode cX11_shrink 2 = .ok (.iconst 0, 1) := by decide +kernel
theorem dX11_shrink_3 : decode cX11_shrink 3 = .ok (.istore 4, 2) := by decide +kernel
theorem dX11_shrink_5 : decode cX11_shrink 5 = .ok (.iload 4, 2) := by decide +kernel
theorem dX11_shrink_7 : decode cX11_shrink 7 = .ok (.iconst 4, 1) := by decide +kernel
theorem dX11_shrink_8 : decode cX11_shrink 8 = .ok (.if_icmp .ge 25, 3) := by decide +kernel
theorem dX11_shrink_11 : decode cX11_shrink 11 = .ok (.lload_n 2, 1) := by decide +kernel
theorem dX11_shrink_12 : decode cX11_shrink 12 = .ok (.aload_n 0, 1) := by decide +kernel
theorem dX11_shrink_13 : decode cX11_shrink 13 = .ok (.getfield 32, 3) := by decide +kernel
theorem dX11_shrink_16 : decode cX11_shrink 16 = .ok (.iconst 4, 1) := by decide +kernel
theorem dX11_shrink_17 : decode cX11_shrink 17 = .ok (.iload_n 1, 1) := by decide +kernel
theorem dX11_shrink_18 : decode cX11_shrink 18 = .ok (.imul, 1) := by decide +kernel
theorem dX11_shrink_19 : decode cX11_shrink 19 = .ok (.iload 4, 2) := by decide +kernel
theorem dX11_shrink_21 : decode cX11_shrink 21 = .ok (.iadd, 1) := by decide +kernel
theorem dX11_shrink_22 : decode cX11_shrink 22 = .ok (.laload, 1) := by decide +kernel
theorem dX11_shrink_23 : decode cX11_shrink 23 = .ok (.invokestatic 93, 3) := by decide +kernel
theorem dX11_shrink_26 : decode cX11_shrink 26 = .ok (.lstore_n 2, 1) := by decide +kernel
theorem dX11_shrink_27 : decode cX11_shrink 27 = .ok (.iinc 4 1, 3) := by decide +kernel
theorem dX11_shrink_30 : decode cX11_shrink 30 = .ok (.goto (-25), 3) := by decide +kernel
theorem dX11_shrink_33 : decode cX11_shrink 33 = .ok (.iconst 0, 1) := by decide +kernel
theorem dX11_shrink_34 : decode cX11_shrink 34 = .ok (.istore 4, 2) := by decide +kernel
theorem dX11_shrink_36 : decode cX11_shrink 36 = .ok (.iload 4, 2) := by decide +kernel
theorem dX11_shrink_38 : decode cX11_shrink 38 = .ok (.iconst 4, 1) := by decide +kernel
theorem dX11_shrink_39 : decode cX11_shrink 39 = .ok (.if_icmp .ge 30, 3) := by decide +kernel
theorem dX11_shrink_42 : decode cX11_shrink 42 = .ok (.lload_n 2, 1) := by decide +kernel
theorem dX11_shrink_43 : decode cX11_shrink 43 = .ok (.lconst 1, 1) := by decide +kernel
theorem dX11_shrink_44 : decode cX11_shrink 44 = .ok (.lcmp, 1) := by decide +kernel
theorem dX11_shrink_45 : decode cX11_shrink 45 = .ok (.ifCond .le 24, 3) := by decide +kernel
theorem dX11_shrink_48 : decode cX11_shrink 48 = .ok (.aload_n 0, 1) := by decide +kernel
theorem dX11_shrink_49 : decode cX11_shrink 49 = .ok (.getfield 32, 3) := by decide +kernel
theorem dX11_shrink_52 : decode cX11_shrink 52 = .ok (.iconst 4, 1) := by decide +kernel
theorem dX11_shrink_53 : decode cX11_shrink 53 = .ok (.iload_n 1, 1) := by decide +kernel
theorem dX11_shrink_54 : decode cX11_shrink 54 = .ok (.imul, 1) := by decide +kernel
theorem dX11_shrink_55 : decode cX11_shrink 55 = .ok (.iload 4, 2) := by decide +kernel
theorem dX11_shrink_57 : decode cX11_shrink 57 = .ok (.iadd, 1) := by decide +kernel
theorem dX11_shrink_58 : decode cX11_shrink 58 = .ok (.dup2, 1) := by decide +kernel
theorem dX11_shrink_59 : decode cX11_shrink 59 = .ok (.laload, 1) := by decide +kernel
theorem dX11_shrink_60 : decode cX11_shrink 60 = .ok (.lload_n 2, 1) := by decide +kernel
theorem dX11_shrink_61 : decode cX11_shrink 61 = .ok (.ldiv, 1) := by decide +kernel
theorem dX11_shrink_62 : decode cX11_shrink 62 = .ok (.lastore, 1) := by decide +kernel
theorem dX11_shrink_63 : decode cX11_shrink 63 = .ok (.iinc 4 1, 3) := by decide +kernel
theorem dX11_shrink_66 : decode cX11_shrink 66 = .ok (.goto (-30), 3) := by decide +kernel
theorem dX11_shrink_69 : decode cX11_shrink 69 = .ok (.return_, 1) := by decide +kernel
theorem dX11_swapRows_0 : decode cX11_swapRows 0 = .ok (.iconst 0, 1) := by decide +kernel
theorem dX11_swapRows_1 : decode cX11_swapRows 1 = .ok (.istore_n 3, 1) := by decide +kernel
theorem dX11_swapRows_2 : decode cX11_swapRows 2 = .ok (.iload_n 3, 1) := by decide +kernel
theorem dX11_swapRows_3 : decode cX11_swapRows 3 = .ok (.iconst 4, 1) := by decide +kernel
theorem dX11_swapRows_4 : decode cX11_swapRows 4 = .ok (.if_icmp .ge 53, 3) := by decide +kernel
theorem dX11_swapRows_7 : decode cX11_swapRows 7 = .ok (.aload_n 0, 1) := by decide +kernel
theorem dX11_swapRows_8 : decode cX11_swapRows 8 = .ok (.getfield 32, 3) := by decide +kernel
theorem dX11_swapRows_11 : decode cX11_swapRows 11 = .ok (.iconst 4, 1) := by decide +kernel
theorem dX11_swapRows_12 : decode cX11_swapRows 12 = .ok (.iload_n 1, 1) := by decide +kernel
theorem dX11_swapRows_13 : decode cX11_swapRows 13 = .ok (.imul, 1) := by decide +kernel
theorem dX11_swapRows_14 : decode cX11_swapRows 14 = .ok (.iload_n 3, 1) := by decide +kernel
theorem dX11_swapRows_15 : decode cX11_swapRows 15 = .ok (.iadd, 1) := by decide +kernel
theorem dX11_swapRows_16 : decode cX11_swapRows 16 = .ok (.laload, 1) := by decide +kernel
theorem dX11_swapRows_17 : decode cX11_swapRows 17 = .ok (.lstore 4, 2) := by decide +kernel
theorem dX11_swapRows_19 : decode cX11_swapRows 19 = .ok (.aload_n 0, 1) := by decide +kernel
theorem dX11_swapRows_20 : decode cX11_swapRows 20 = .ok (.getfield 32, 3) := by decide +kernel
theorem dX11_swapRows_23 : decode cX11_swapRows 23 = .ok (.iconst 4, 1) := by decide +kernel
theorem dX11_swapRows_24 : decode cX11_swapRows 24 = .ok (.iload_n 1, 1) := by decide +kernel
theorem dX11_swapRows_25 : decode cX11_swapRows 25 = .ok (.imul, 1) := by decide +kernel
theorem dX11_swapRows_26 : decode cX11_swapRows 26 = .ok (.iload_n 3, 1) := by decide +kernel
theorem dX11_swapRows_27 : decode cX11_swapRows 27 = .ok (.iadd, 1) := by decide +kernel
theorem dX11_swapRows_28 : decode cX11_swapRows 28 = .ok (.aload_n 0, 1) := by decide +kernel
theorem dX11_swapRows_29 : decode cX11_swapRows 29 = .ok (.getfield 32, 3) := by decide +kernel
theorem dX11_swapRows_32 : decode cX11_swapRows 32 = .ok (.iconst 4, 1) := by decide +kernel
theorem dX11_swapRows_33 : decode cX11_swapRows 33 = .ok (.iload_n 2, 1) := by decide +kernel
theorem dX11_swapRows_34 : decode cX11_swapRows 34 = .ok (.imul, 1) := by decide +kernel
theorem dX11_swapRows_35 : decode cX11_swapRows 35 = .ok (.iload_n 3, 1) := by decide +kernel
theorem dX11_swapRows_36 : decode cX11_swapRows 36 = .ok (.iadd, 1) := by decide +kernel
theorem dX11_swapRows_37 : decode cX11_swapRows 37 = .ok (.laload, 1) := by decide +kernel
theorem dX11_swapRows_38 : decode cX11_swapRows 38 = .ok (.lastore, 1) := by decide +kernel
theorem dX11_swapRows_39 : decode cX11_swapRows 39 = .ok (.aload_n 0, 1) := by decide +kernel
theorem dX11_swapRows_40 : decode cX11_swapRows 40 = .ok (.getfield 32, 3) := by decide +kernel
theorem dX11_swapRows_43 : decode cX11_swapRows 43 = .ok (.iconst 4, 1) := by decide +kernel
theorem dX11_swapRows_44 : decode cX11_swapRows 44 = .ok (.iload_n 2, 1) := by decide +kernel
theorem dX11_swapRows_45 : decode cX11_swapRows 45 = .ok (.imul, 1) := by decide +kernel
theorem dX11_swapRows_46 : decode cX11_swapRows 46 = .ok (.iload_n 3, 1) := by decide +kernel
theorem dX11_swapRows_47 : decode cX11_swapRows 47 = .ok (.iadd, 1) := by decide +kernel
theorem dX11_swapRows_48 : decode cX11_swapRows 48 = .ok (.lload 4, 2) := by decide +kernel
theorem dX11_swapRows_50 : decode cX11_swapRows 50 = .ok (.lastore, 1) := by decide +kernel
theorem dX11_swapRows_51 : decode cX11_swapRows 51 = .ok (.iinc 3 1, 3) := by decide +kernel
theorem dX11_swapRows_54 : decode cX11_swapRows 54 = .ok (.goto (-52), 3) := by decide +kernel
theorem dX11_swapRows_57 : decode cX11_swapRows 57 = .ok (.return_, 1) := by decide +kernel
theorem dX11_rankBy_0 : decode cX11_rankBy 0 = .ok (.iconst 0, 1) := by decide +kernel
theorem dX11_rankBy_1 : decode cX11_rankBy 1 = .ok (.istore_n 2, 1) := by decide +kernel
theorem dX11_rankBy_2 : decode cX11_rankBy 2 = .ok (.iconst 0, 1) := by decide +kernel
theorem dX11_rankBy_3 : decode cX11_rankBy 3 = .ok (.istore_n 3, 1) := by decide +kernel
theorem dX11_rankBy_4 : decode cX11_rankBy 4 = .ok (.iload_n 3, 1) := by decide +kernel
theorem dX11_rankBy_5 : decode cX11_rankBy 5 = .ok (.aload_n 0, 1) := by decide +kernel
theorem dX11_rankBy_6 : decode cX11_rankBy 6 = .ok (.getfield 7, 3) := by decide +kernel
theorem dX11_rankBy_9 : decode cX11_rankBy 9 = .ok (.bipush 37, 2) := by decide +kernel
theorem dX11_rankBy_11 : decode cX11_rankBy 11 = .ok (.iaload, 1) := by decide +kernel
theorem dX11_rankBy_12 : decode cX11_rankBy 12 = .ok (.if_icmp .ge 58, 3) := by decide +kernel
theorem dX11_rankBy_15 : decode cX11_rankBy 15 = .ok (.iload_n 1, 1) := by decide +kernel
theorem dX11_rankBy_16 : decode cX11_rankBy 16 = .ok (.iload_n 3, 1) := by decide +kernel
theorem dX11_rankBy_17 : decode cX11_rankBy 17 = .ok (.invokestatic 97, 3) := by decide +kernel
theorem dX11_rankBy_20 : decode cX11_rankBy 20 = .ok (.ifCond .eq 44, 3) := by decide +kernel
theorem dX11_rankBy_23 : decode cX11_rankBy 23 = .ok (.iconst 0, 1) := by decide +kernel
theorem dX11_rankBy_24 : decode cX11_rankBy 24 = .ok (.istore 4, 2) := by decide +kernel
theorem dX11_rankBy_26 : decode cX11_rankBy 26 = .ok (.iload 4, 2) := by decide +kernel
theorem dX11_rankBy_28 : decode cX11_rankBy 28 = .ok (.iconst 4, 1) := by decide +kernel
theorem dX11_rankBy_29 : decode cX11_rankBy 29 = .ok (.if_icmp .ge 32, 3) := by decide +kernel
theorem dX11_rankBy_32 : decode cX11_rankBy 32 = .ok (.aload_n 0, 1) := by decide +kernel
theorem dX11_rankBy_33 : decode cX11_rankBy 33 = .ok (.getfield 32, 3) := by decide +kernel
theorem dX11_rankBy_36 : decode cX11_rankBy 36 = .ok (.iconst 4, 1) := by decide +kernel
theorem dX11_rankBy_37 : decode cX11_rankBy 37 = .ok (.iload_n 2, 1) := by decide +kernel
theorem dX11_rankBy_38 : decode cX11_rankBy 38 = .ok (.imul, 1) := by decide +kernel
theorem dX11_rankBy_39 : decode cX11_rankBy 39 = .ok (.iload 4, 2) := by decide +kernel
theorem dX11_rankBy_41 : decode cX11_rankBy 41 = .ok (.iadd, 1) := by decide +kernel
theorem dX11_rankBy_42 : decode cX11_rankBy 42 = .ok (.aload_n 0, 1) := by decide +kernel
theorem dX11_rankBy_43 : decode cX11_rankBy 43 = .ok (.getfield 7, 3) := by decide +kernel
theorem dX11_rankBy_46 : decode cX11_rankBy 46 = .ok (.iconst 4, 1) := by decide +kernel
theorem dX11_rankBy_47 : decode cX11_rankBy 47 = .ok (.iload_n 3, 1) := by decide +kernel
theorem dX11_rankBy_48 : decode cX11_rankBy 48 = .ok (.imul, 1) := by decide +kernel
theorem dX11_rankBy_49 : decode cX11_rankBy 49 = .ok (.iload 4, 2) := by decide +kernel
theorem dX11_rankBy_51 : decode cX11_rankBy 51 = .ok (.iadd, 1) := by decide +kernel
theorem dX11_rankBy_52 : decode cX11_rankBy 52 = .ok (.iaload, 1) := by decide +kernel
theorem dX11_rankBy_53 : decode cX11_rankBy 53 = .ok (.i2l, 1) := by decide +kernel
theorem dX11_rankBy_54 : decode cX11_rankBy 54 = .ok (.lastore, 1) := by decide +kernel
theorem dX11_rankBy_55 : decode cX11_rankBy 55 = .ok (.iinc 4 1, 3) := by decide +kernel
theorem dX11_rankBy_58 : decode cX11_rankBy 58 = .ok (.goto (-32), 3) := by decide +kernel
theorem dX11_rankBy_61 : decode cX11_rankBy 61 = .ok (.iinc 2 1, 3) := by decide +kernel
theorem dX11_rankBy_64 : decode cX11_rankBy 64 = .ok (.iinc 3 1, 3) := by decide +kernel
theorem dX11_rankBy_67 : decode cX11_rankBy 67 = .ok (.goto (-63), 3) := by decide +kernel
theorem dX11_rankBy_70 : decode cX11_rankBy 70 = .ok (.iconst 0, 1) := by decide +kernel
theorem dX11_rankBy_71 : decode cX11_rankBy 71 = .ok (.istore_n 3, 1) := by decide +kernel
theorem dX11_rankBy_72 : decode cX11_rankBy 72 = .ok (.iconst 0, 1) := by decide +kernel
theorem dX11_rankBy_73 : decode cX11_rankBy 73 = .ok (.istore 4, 2) := by decide +kernel
theorem dX11_rankBy_75 : decode cX11_rankBy 75 = .ok (.iload 4, 2) := by decide +kernel
theorem dX11_rankBy_77 : decode cX11_rankBy 77 = .ok (.iconst 4, 1) := by decide +kernel
theorem dX11_rankBy_78 : decode cX11_rankBy 78 = .ok (.if_icmp .ge 164, 3) := by decide +kernel
theorem dX11_rankBy_81 : decode cX11_rankBy 81 = .ok (.iload_n 3, 1) := by decide +kernel
theorem dX11_rankBy_82 : decode cX11_rankBy 82 = .ok (.istore 5, 2) := by decide +kernel
theorem dX11_rankBy_84 : decode cX11_rankBy 84 = .ok (.iload 5, 2) := by decide +kernel
theorem dX11_rankBy_86 : decode cX11_rankBy 86 = .ok (.iload_n 2, 1) := by decide +kernel
theorem dX11_rankBy_87 : decode cX11_rankBy 87 = .ok (.if_icmp .ge 26, 3) := by decide +kernel
theorem dX11_rankBy_90 : decode cX11_rankBy 90 = .ok (.aload_n 0, 1) := by decide +kernel
theorem dX11_rankBy_91 : decode cX11_rankBy 91 = .ok (.getfield 32, 3) := by decide +kernel
theorem dX11_rankBy_94 : decode cX11_rankBy 94 = .ok (.iconst 4, 1) := by decide +kernel
theorem dX11_rankBy_95 : decode cX11_rankBy 95 = .ok (.iload 5, 2) := by decide +kernel
theorem dX11_rankBy_97 : decode cX11_rankBy 97 = .ok (.imul, 1) := by decide +kernel
theorem dX11_rankBy_98 : decode cX11_rankBy 98 = .ok (.iload 4, 2) := by decide +kernel
theorem dX11_rankBy_100 : decode cX11_rankBy 100 = .ok (.iadd, 1) := by decide +kernel
theorem dX11_rankBy_101 : decode cX11_rankBy 101 = .ok (.laload, 1) := by decide +kernel
theorem dX11_rankBy_102 : decode cX11_rankBy 102 = .ok (.lconst 0, 1) := by decide +kernel
theorem dX11_rankBy_103 : decode cX11_rankBy 103 = .ok (.lcmp, 1) := by decide +kernel
theorem dX11_rankBy_104 : decode cX11_rankBy 104 = .ok (.ifCond .ne 9, 3) := by decide +kernel
theorem dX11_rankBy_107 : decode cX11_rankBy 107 = .ok (.iinc 5 1, 3) := by decide +kernel
theorem dX11_rankBy_110 : decode cX11_rankBy 110 = .ok (.goto (-26), 3) := by decide +kernel
theorem dX11_rankBy_113 : decode cX11_rankBy 113 = .ok (.iload 5, 2) := by decide +kernel
theorem dX11_rankBy_115 : decode cX11_rankBy 115 = .ok (.iload_n 2, 1) := by decide +kernel
theorem dX11_rankBy_116 : decode cX11_rankBy 116 = .ok (.if_icmp .ge 120, 3) := by decide +kernel
theorem dX11_rankBy_119 : decode cX11_rankBy 119 = .ok (.aload_n 0, 1) := by decide +kernel
theorem dX11_rankBy_120 : decode cX11_rankBy 120 = .ok (.iload 5, 2) := by decide +kernel
theorem dX11_rankBy_122 : decode cX11_rankBy 122 = .ok (.iload_n 3, 1) := by decide +kernel
theorem dX11_rankBy_123 : decode cX11_rankBy 123 = .ok (.invokevirtual 101, 3) := by decide +kernel
theorem dX11_rankBy_126 : decode cX11_rankBy 126 = .ok (.iload_n 3, 1) := by decide +kernel
theorem dX11_rankBy_127 : decode cX11_rankBy 127 = .ok (.iconst 1, 1) := by decide +kernel
theorem dX11_rankBy_128 : decode cX11_rankBy 128 = .ok (.iadd, 1) := by decide +kernel
theorem dX11_rankBy_129 : decode cX11_rankBy 129 = .ok (.istore 6, 2) := by decide +kernel
theorem dX11_rankBy_131 : decode cX11_rankBy 131 = .ok (.iload 6, 2) := by decide +kernel
theorem dX11_rankBy_133 : decode cX11_rankBy 133 = .ok (.iload_n 2, 1) := by decide +kernel
theorem dX11_rankBy_134 : decode cX11_rankBy 134 = .ok (.if_icmp .ge 99, 3) := by decide +kernel
theorem dX11_rankBy_137 : decode cX11_rankBy 137 = .ok (.aload_n 0, 1) := by decide +kernel
theorem dX11_rankBy_138 : decode cX11_rankBy 138 = .ok (.getfield 32, 3) := by decide +kernel
theorem dX11_rankBy_141 : decode cX11_rankBy 141 = .ok (.iconst 4, 1) := by decide +kernel
theorem dX11_rankBy_142 : decode cX11_rankBy 142 = .ok (.iload 6, 2) := by decide +kernel
theorem dX11_rankBy_144 : decode cX11_rankBy 144 = .ok (.imul, 1) := by decide +kernel
theorem dX11_rankBy_145 : decode cX11_rankBy 145 = .ok (.iload 4, 2) := by decide +kernel
theorem dX11_rankBy_147 : decode cX11_rankBy 147 = .ok (.iadd, 1) := by decide +kernel
theorem dX11_rankBy_148 : decode cX11_rankBy 148 = .ok (.laload, 1) := by decide +kernel
theorem dX11_rankBy_149 : decode cX11_rankBy 149 = .ok (.lstore 7, 2) := by decide +kernel
theorem dX11_rankBy_151 : decode cX11_rankBy 151 = .ok (.aload_n 0, 1) := by decide +kernel
theorem dX11_rankBy_152 : decode cX11_rankBy 152 = .ok (.getfield 32, 3) := by decide +kernel
theorem dX11_rankBy_155 : decode cX11_rankBy 155 = .ok (.iconst 4, 1) := by decide +kernel
theorem dX11_rankBy_156 : decode cX11_rankBy 156 = .ok (.iload_n 3, 1) := by decide +kernel
theorem dX11_rankBy_157 : decode cX11_rankBy 157 = .ok (.imul, 1) := by decide +kernel
theorem dX11_rankBy_158 : decode cX11_rankBy 158 = .ok (.iload 4, 2) := by decide +kernel
theorem dX11_rankBy_160 : decode cX11_rankBy 160 = .ok (.iadd, 1) := by decide +kernel
theorem dX11_rankBy_161 : decode cX11_rankBy 161 = .ok (.laload, 1) := by decide +kernel
theorem dX11_rankBy_162 : decode cX11_rankBy 162 = .ok (.lstore 9, 2) := by decide +kernel
theorem dX11_rankBy_164 : decode cX11_rankBy 164 = .ok (.iconst 0, 1) := by decide +kernel
theorem dX11_rankBy_165 : decode cX11_rankBy 165 = .ok (.istore 11, 2) := by decide +kernel
theorem dX11_rankBy_167 : decode cX11_rankBy 167 = .ok (.iload 11, 2) := by decide +kernel
theorem dX11_rankBy_169 : decode cX11_rankBy 169 = .ok (.iconst 4, 1) := by decide +kernel
theorem dX11_rankBy_170 : decode cX11_rankBy 170 = .ok (.if_icmp .ge 51, 3) := by decide +kernel
theorem dX11_rankBy_173 : decode cX11_rankBy 173 = .ok (.aload_n 0, 1) := by decide +kernel
theorem dX11_rankBy_174 : decode cX11_rankBy 174 = .ok (.getfield 32, 3) := by decide +kernel
theorem dX11_rankBy_177 : decode cX11_rankBy 177 = .ok (.iconst 4, 1) := by decide +kernel
theorem dX11_rankBy_178 : decode cX11_rankBy 178 = .ok (.iload 6, 2) := by decide +kernel
theorem dX11_rankBy_180 : decode cX11_rankBy 180 = .ok (.imul, 1) := by decide +kernel
theorem dX11_rankBy_181 : decode cX11_rankBy 181 = .ok (.iload 11, 2) := by decide +kernel
theorem dX11_rankBy_183 : decode cX11_rankBy 183 = .ok (.iadd, 1) := by decide +kernel
theorem dX11_rankBy_184 : decode cX11_rankBy 184 = .ok (.aload_n 0, 1) := by decide +kernel
theorem dX11_rankBy_185 : decode cX11_rankBy 185 = .ok (.getfield 32, 3) := by decide +kernel
theorem dX11_rankBy_188 : decode cX11_rankBy 188 = .ok (.iconst 4, 1) := by decide +kernel
theorem dX11_rankBy_189 : decode cX11_rankBy 189 = .ok (.iload 6, 2) := by decide +kernel
theorem dX11_rankBy_191 : decode cX11_rankBy 191 = .ok (.imul, 1) := by decide +kernel
theorem dX11_rankBy_192 : decode cX11_rankBy 192 = .ok (.iload 11, 2) := by decide +kernel
theorem dX11_rankBy_194 : decode cX11_rankBy 194 = .ok (.iadd, 1) := by decide +kernel
theorem dX11_rankBy_195 : decode cX11_rankBy 195 = .ok (.laload, 1) := by decide +kernel
theorem dX11_rankBy_196 : decode cX11_rankBy 196 = .ok (.lload 9, 2) := by decide +kernel
theorem dX11_rankBy_198 : decode cX11_rankBy 198 = .ok (.lmul, 1) := by decide +kernel
theorem dX11_rankBy_199 : decode cX11_rankBy 199 = .ok (.aload_n 0, 1) := by decide +kernel
theorem dX11_rankBy_200 : decode cX11_rankBy 200 = .ok (.getfield 32, 3) := by decide +kernel
theorem dX11_rankBy_203 : decode cX11_rankBy 203 = .ok (.iconst 4, 1) := by decide +kernel
theorem dX11_rankBy_204 : decode cX11_rankBy 204 = .ok (.iload_n 3, 1) := by decide +kernel
theorem dX11_rankBy_205 : decode cX11_rankBy 205 = .ok (.imul, 1) := by decide +kernel
theorem dX11_rankBy_206 : decode cX11_rankBy 206 = .ok (.iload 11, 2) := by decide +kernel
theorem dX11_rankBy_208 : decode cX11_rankBy 208 = .ok (.iadd, 1) := by decide +kernel
theorem dX11_rankBy_209 : decode cX11_rankBy 209 = .ok (.laload, 1) := by decide +kernel
theorem dX11_rankBy_210 : decode cX11_rankBy 210 = .ok (.lload 7, 2) := by decide +kernel
theorem dX11_rankBy_212 : decode cX11_rankBy 212 = .ok (.lmul, 1) := by decide +kernel
theorem dX11_rankBy_213 : decode cX11_rankBy 213 = .ok (.lsub, 1) := by decide +kernel
theorem dX11_rankBy_214 : decode cX11_rankBy 214 = .ok (.lastore, 1) := by decide +kernel
theorem dX11_rankBy_215 : decode cX11_rankBy 215 = .ok (.iinc 11 1, 3) := by decide +kernel
theorem dX11_rankBy_218 : decode cX11_rankBy 218 = .ok (.goto (-51), 3) := by decide +kernel
theorem dX11_rankBy_221 : decode cX11_rankBy 221 = .ok (.aload_n 0, 1) := by decide +kernel
theorem dX11_rankBy_222 : decode cX11_rankBy 222 = .ok (.iload 6, 2) := by decide +kernel
theorem dX11_rankBy_224 : decode cX11_rankBy 224 = .ok (.invokevirtual 105, 3) := by decide +kernel
theorem dX11_rankBy_227 : decode cX11_rankBy 227 = .ok (.iinc 6 1, 3) := by decide +kernel
theorem dX11_rankBy_230 : decode cX11_rankBy 230 = .ok (.goto (-99), 3) := by decide +kernel
theorem dX11_rankBy_233 : decode cX11_rankBy 233 = .ok (.iinc 3 1, 3) := by decide +kernel
theorem dX11_rankBy_236 : decode cX11_rankBy 236 = .ok (.iinc 4 1, 3) := by decide +kernel
theorem dX11_rankBy_239 : decode cX11_rankBy 239 = .ok (.goto (-164), 3) := by decide +kernel
theorem dX11_rankBy_242 : decode cX11_rankBy 242 = .ok (.iload_n 3, 1) := by decide +kernel
theorem dX11_rankBy_243 : decode cX11_rankBy 243 = .ok (.ireturn, 1) := by decide +kernel
theorem dX11_all_0 : decode cX11_all 0 = .ok (.iconst 1, 1) := by decide +kernel
theorem dX11_all_1 : decode cX11_all 1 = .ok (.aload_n 0, 1) := by decide +kernel
theorem dX11_all_2 : decode cX11_all 2 = .ok (.getfield 7, 3) := by decide +kernel
theorem dX11_all_5 : decode cX11_all 5 = .ok (.bipush 37, 2) := by decide +kernel
theorem dX11_all_7 : decode cX11_all 7 = .ok (.iaload, 1) := by decide +kernel
theorem dX11_all_8 : decode cX11_all 8 = .ok (.ishl, 1) := by decide +kernel
theorem dX11_all_9 : decode cX11_all 9 = .ok (.iconst 1, 1) := by decide +kernel
theorem dX11_all_10 : decode cX11_all 10 = .ok (.isub, 1) := by decide +kernel
theorem dX11_all_11 : decode cX11_all 11 = .ok (.ireturn, 1) := by decide +kernel
theorem dX11_isSet_0 : decode cX11_isSet 0 = .ok (.iload_n 1, 1) := by decide +kernel
theorem dX11_isSet_1 : decode cX11_isSet 1 = .ok (.iconst 0, 1) := by decide +kernel
theorem dX11_isSet_2 : decode cX11_isSet 2 = .ok (.aload_n 0, 1) := by decide +kernel
theorem dX11_isSet_3 : decode cX11_isSet 3 = .ok (.invokevirtual 109, 3) := by decide +kernel
theorem dX11_isSet_6 : decode cX11_isSet 6 = .ok (.invokestatic 113, 3) := by decide +kernel
theorem dX11_isSet_9 : decode cX11_isSet 9 = .ok (.ireturn, 1) := by decide +kernel
theorem dX11_lay_0 : decode cX11_lay 0 = .ok (.aload_n 0, 1) := by decide +kernel
theorem dX11_lay_1 : decode cX11_lay 1 = .ok (.getfield 85, 3) := by decide +kernel
theorem dX11_lay_4 : decode cX11_lay 4 = .ok (.ifCond .eq 4, 3) := by decide +kernel
theorem dX11_lay_7 : decode cX11_lay 7 = .ok (.return_, 1) := by decide +kernel
theorem dX11_lay_8 : decode cX11_lay 8 = .ok (.aload_n 0, 1) := by decide +kernel
theorem dX11_lay_9 : decode cX11_lay 9 = .ok (.iconst 1, 1) := by decide +kernel
theorem dX11_lay_10 : decode cX11_lay 10 = .ok (.putfield 85, 3) := by decide +kernel
theorem dX11_lay_13 : decode cX11_lay 13 = .ok (.iconst 0, 1) := by decide +kernel
theorem dX11_lay_14 : decode cX11_lay 14 = .ok (.istore_n 1, 1) := by decide +kernel
theorem dX11_lay_15 : decode cX11_lay 15 = .ok (.iload_n 1, 1) := by decide +kernel
theorem dX11_lay_16 : decode cX11_lay 16 = .ok (.aload_n 0, 1) := by decide +kernel
theorem dX11_lay_17 : decode cX11_lay 17 = .ok (.invokevirtual 109, 3) := by decide +kernel
theorem dX11_lay_20 : decode cX11_lay 20 = .ok (.if_icmp .gt 20, 3) := by decide +kernel
theorem dX11_lay_23 : decode cX11_lay 23 = .ok (.aload_n 0, 1) := by decide +kernel
theorem dX11_lay_24 : decode cX11_lay 24 = .ok (.getfield 29, 3) := by decide +kernel
theorem dX11_lay_27 : decode cX11_lay 27 = .ok (.iload_n 1, 1) := by decide +kernel
theorem dX11_lay_28 : decode cX11_lay 28 = .ok (.aload_n 0, 1) := by decide +kernel
theorem dX11_lay_29 : decode cX11_lay 29 = .ok (.iload_n 1, 1) := by decide +kernel
theorem dX11_lay_30 : decode cX11_lay 30 = .ok (.invokevirtual 117, 3) := by decide +kernel
theorem dX11_lay_33 : decode cX11_lay 33 = .ok (.iastore, 1) := by decide +kernel
theorem dX11_lay_34 : decode cX11_lay 34 = .ok (.iinc 1 1, 3) := by decide +kernel
theorem dX11_lay_37 : decode cX11_lay 37 = .ok (.goto (-22), 3) := by decide +kernel
theorem dX11_lay_40 : decode cX11_lay 40 = .ok (.aload_n 0, 1) := by decide +kernel
theorem dX11_lay_41 : decode cX11_lay 41 = .ok (.iconst 0, 1) := by decide +kernel
theorem dX11_lay_42 : decode cX11_lay 42 = .ok (.putfield 120, 3) := by decide +kernel
theorem dX11_lay_45 : decode cX11_lay 45 = .ok (.iconst 1, 1) := by decide +kernel
theorem dX11_lay_46 : decode cX11_lay 46 = .ok (.istore_n 1, 1) := by decide +kernel
theorem dX11_lay_47 : decode cX11_lay 47 = .ok (.iload_n 1, 1) := by decide +kernel
theorem dX11_lay_48 : decode cX11_lay 48 = .ok (.bipush 6, 2) := by decide +kernel
theorem dX11_lay_50 : decode cX11_lay 50 = .ok (.if_icmp .ge 75, 3) := by decide +kernel
theorem dX11_lay_53 : decode cX11_lay 53 = .ok (.iconst 0, 1) := by decide +kernel
theorem dX11_lay_54 : decode cX11_lay 54 = .ok (.istore_n 2, 1) := by decide +kernel
theorem dX11_lay_55 : decode cX11_lay 55 = .ok (.iload_n 2, 1) := by decide +kernel
theorem dX11_lay_56 : decode cX11_lay 56 = .ok (.aload_n 0, 1) := by decide +kernel
theorem dX11_lay_57 : decode cX11_lay 57 = .ok (.invokevirtual 109, 3) := by decide +kernel
theorem dX11_lay_60 : decode cX11_lay 60 = .ok (.if_icmp .gt 59, 3) := by decide +kernel
theorem dX11_lay_63 : decode cX11_lay 63 = .ok (.iload_n 2, 1) := by decide +kernel
theorem dX11_lay_64 : decode cX11_lay 64 = .ok (.invokestatic 123, 3) := by decide +kernel
theorem dX11_lay_67 : decode cX11_lay 67 = .ok (.iload_n 1, 1) := by decide +kernel
theorem dX11_lay_68 : decode cX11_lay 68 = .ok (.if_icmp .ne 45, 3) := by decide +kernel
theorem dX11_lay_71 : decode cX11_lay 71 = .ok (.aload_n 0, 1) := by decide +kernel
theorem dX11_lay_72 : decode cX11_lay 72 = .ok (.iload_n 2, 1) := by decide +kernel
theorem dX11_lay_73 : decode cX11_lay 73 = .ok (.invokevirtual 126, 3) := by decide +kernel
theorem dX11_lay_76 : decode cX11_lay 76 = .ok (.ifCond .eq 37, 3) := by decide +kernel
theorem dX11_lay_79 : decode cX11_lay 79 = .ok (.aload_n 0, 1) := by decide +kernel
theorem dX11_lay_80 : decode cX11_lay 80 = .ok (.getfield 36, 3) := by decide +kernel
theorem dX11_lay_83 : decode cX11_lay 83 = .ok (.aload_n 0, 1) := by decide +kernel
theorem dX11_lay_84 : decode cX11_lay 84 = .ok (.getfield 120, 3) := by decide +kernel
theorem dX11_lay_87 : decode cX11_lay 87 = .ok (.iload_n 2, 1) := by decide +kernel
theorem dX11_lay_88 : decode cX11_lay 88 = .ok (.iastore, 1) := by decide +kernel
theorem dX11_lay_89 : decode cX11_lay 89 = .ok (.aload_n 0, 1) := by decide +kernel
theorem dX11_lay_90 : decode cX11_lay 90 = .ok (.getfield 39, 3) := by decide +kernel
theorem dX11_lay_93 : decode cX11_lay 93 = .ok (.aload_n 0, 1) := by decide +kernel
theorem dX11_lay_94 : decode cX11_lay 94 = .ok (.getfield 120, 3) := by decide +kernel
theorem dX11_lay_97 : decode cX11_lay 97 = .ok (.aload_n 0, 1) := by decide +kernel
theorem dX11_lay_98 : decode cX11_lay 98 = .ok (.iload_n 2, 1) := by decide +kernel
theorem dX11_lay_99 : decode cX11_lay 99 = .ok (.invokevirtual 130, 3) := by decide +kernel
theorem dX11_lay_102 : decode cX11_lay 102 = .ok (.iastore, 1) := by decide +kernel
theorem dX11_lay_103 : decode cX11_lay 103 = .ok (.aload_n 0, 1) := by decide +kernel
theorem dX11_lay_104 : decode cX11_lay 104 = .ok (.dup, 1) := by decide +kernel
theorem dX11_lay_105 : decode cX11_lay 105 = .ok (.getfield 120, 3) := by decide +kernel
theorem dX11_lay_108 : decode cX11_lay 108 = .ok (.iconst 1, 1) := by decide +kernel
theorem dX11_lay_109 : decode cX11_lay 109 = .ok (.iadd, 1) := by decide +kernel
theorem dX11_lay_110 : decode cX11_lay 110 = .ok (.putfield 120, 3) := by decide +kernel
theorem dX11_lay_113 : decode cX11_lay 113 = .ok (.iinc 2 1, 3) := by decide +kernel
theorem dX11_lay_116 : decode cX11_lay 116 = .ok (.goto (-61), 3) := by decide +kernel
theorem dX11_lay_119 : decode cX11_lay 119 = .ok (.iinc 1 1, 3) := by decide +kernel
theorem dX11_lay_122 : decode cX11_lay 122 = .ok (.goto (-75), 3) := by decide +kernel
theorem dX11_lay_125 : decode cX11_lay 125 = .ok (.return_, 1) := by decide +kernel
theorem dX11_isBound_0 : decode cX11_isBound 0 = .ok (.aload_n 0, 1) := by decide +kernel
theorem dX11_isBound_1 : decode cX11_isBound 1 = .ok (.getfield 29, 3) := by decide +kernel
theorem dX11_isBound_4 : decode cX11_isBound 4 = .ok (.iload_n 1, 1) := by decide +kernel
theorem dX11_isBound_5 : decode cX11_isBound 5 = .ok (.iaload, 1) := by decide +kernel
theorem dX11_isBound_6 : decode cX11_isBound 6 = .ok (.iload_n 1, 1) := by decide +kernel
theorem dX11_isBound_7 : decode cX11_isBound 7 = .ok (.invokestatic 123, 3) := by decide +kernel
theorem dX11_isBound_10 : decode cX11_isBound 10 = .ok (.if_icmp .ge 7, 3) := by decide +kernel
theorem dX11_isBound_13 : decode cX11_isBound 13 = .ok (.iconst 1, 1) := by decide +kernel
theorem dX11_isBound_14 : decode cX11_isBound 14 = .ok (.goto 4, 3) := by decide +kernel
theorem dX11_isBound_17 : decode cX11_isBound 17 = .ok (.iconst 0, 1) := by decide +kernel
theorem dX11_isBound_18 : decode cX11_isBound 18 = .ok (.ireturn, 1) := by decide +kernel
theorem dX11_isRing_0 : decode cX11_isRing 0 = .ok (.aload_n 0, 1) := by decide +kernel
theorem dX11_isRing_1 : decode cX11_isRing 1 = .ok (.iload_n 1, 1) := by decide +kernel
theorem dX11_isRing_2 : decode cX11_isRing 2 = .ok (.invokevirtual 133, 3) := by decide +kernel
theorem dX11_isRing_5 : decode cX11_isRing 5 = .ok (.istore_n 2, 1) := by decide +kernel
theorem dX11_isRing_6 : decode cX11_isRing 6 = .ok (.iconst 0, 1) := by decide +kernel
theorem dX11_isRing_7 : decode cX11_isRing 7 = .ok (.istore_n 3, 1) := by decide +kernel
theorem dX11_isRing_8 : decode cX11_isRing 8 = .ok (.iload_n 3, 1) := by decide +kernel
theorem dX11_isRing_9 : decode cX11_isRing 9 = .ok (.aload_n 0, 1) := by decide +kernel
theorem dX11_isRing_10 : decode cX11_isRing 10 = .ok (.getfield 7, 3) := by decide +kernel
theorem dX11_isRing_13 : decode cX11_isRing 13 = .ok (.bipush 37, 2) := by decide +kernel
theorem dX11_isRing_15 : decode cX11_isRing 15 = .ok (.iaload, 1) := by decide +kernel
theorem dX11_isRing_16 : decode cX11_isRing 16 = .ok (.if_icmp .ge 41, 3) := by decide +kernel
theorem dX11_isRing_19 : decode cX11_isRing 19 = .ok (.iload_n 2, 1) := by decide +kernel
theorem dX11_isRing_20 : decode cX11_isRing 20 = .ok (.ifCond .eq 37, 3) := by decide +kernel
theorem dX11_isRing_23 : decode cX11_isRing 23 = .ok (.iload_n 1, 1) := by decide +kernel
theorem dX11_isRing_24 : decode cX11_isRing 24 = .ok (.iload_n 3, 1) := by decide +kernel
theorem dX11_isRing_25 : decode cX11_isRing 25 = .ok (.invokestatic 97, 3) := by decide +kernel
theorem dX11_isRing_28 : decode cX11_isRing 28 = .ok (.ifCond .eq 17, 3) := by decide +kernel
theorem dX11_isRing_31 : decode cX11_isRing 31 = .ok (.aload_n 0, 1) := by decide +kernel
theorem dX11_isRing_32 : decode cX11_isRing 32 = .ok (.iload_n 1, 1) := by decide +kernel
theorem dX11_isRing_33 : decode cX11_isRing 33 = .ok (.iconst 1, 1) := by decide +kernel
theorem dX11_isRing_34 : decode cX11_isRing 34 = .ok (.iload_n 3, 1) := by decide +kernel
theorem dX11_isRing_35 : decode cX11_isRing 35 = .ok (.ishl, 1) := by decide +kernel
theorem dX11_isRing_36 : decode cX11_isRing 36 = .ok (.iconst (-1), 1) := by decide +kernel
theorem dX11_isRing_37 : decode cX11_isRing 37 = .ok (.ixor, 1) := by decide +kernel
theorem dX11_isRing_38 : decode cX11_isRing 38 = .ok (.iand, 1) := by decide +kernel
theorem dX11_isRing_39 : decode cX11_isRing 39 = .ok (.invokevirtual 133, 3) := by decide +kernel
theorem dX11_isRing_42 : decode cX11_isRing 42 = .ok (.ifCond .ne 7, 3) := by decide +kernel
theorem dX11_isRing_45 : decode cX11_isRing 45 = .ok (.iconst 1, 1) := by decide +kernel
theorem dX11_isRing_46 : decode cX11_isRing 46 = .ok (.goto 4, 3) := by decide +kernel
theorem dX11_isRing_49 : decode cX11_isRing 49 = .ok (.iconst 0, 1) := by decide +kernel
theorem dX11_isRing_50 : decode cX11_isRing 50 = .ok (.istore_n 2, 1) := by decide +kernel
theorem dX11_isRing_51 : decode cX11_isRing 51 = .ok (.iinc 3 1, 3) := by decide +kernel
theorem dX11_isRing_54 : decode cX11_isRing 54 = .ok (.goto (-46), 3) := by decide +kernel
theorem dX11_isRing_57 : decode cX11_isRing 57 = .ok (.iload_n 2, 1) := by decide +kernel
theorem dX11_isRing_58 : decode cX11_isRing 58 = .ok (.ireturn, 1) := by decide +kernel
theorem dX11_clearColumn_0 : decode cX11_clearColumn 0 = .ok (.iload_n 1, 1) := by decide +kernel
theorem dX11_clearColumn_1 : decode cX11_clearColumn 1 = .ok (.istore_n 2, 1) := by decide +kernel
theorem dX11_clearColumn_2 : decode cX11_clearColumn 2 = .ok (.aload_n 0, 1) := by decide +kernel
theorem dX11_clearColumn_3 : decode cX11_clearColumn 3 = .ok (.getfield 48, 3) := by decide +kernel
theorem dX11_clearColumn_6 : decode cX11_clearColumn 6 = .ok (.iconst 5, 1) := by decide +kernel
theorem dX11_clearColumn_7 : decode cX11_clearColumn 7 = .ok (.iload_n 2, 1) := by decide +kernel
theorem dX11_clearColumn_8 : decode cX11_clearColumn 8 = .ok (.imul, 1) := by decide +kernel
theorem dX11_clearColumn_9 : decode cX11_clearColumn 9 = .ok (.iload_n 1, 1) := by decide +kernel
theorem dX11_clearColumn_10 : decode cX11_clearColumn 10 = .ok (.iadd, 1) := by decide +kernel
theorem dX11_clearColumn_11 : decode cX11_clearColumn 11 = .ok (.laload, 1) := by decide +kernel
theorem dX11_clearColumn_12 : decode cX11_clearColumn 12 = .ok (.lconst 0, 1) := by decide +kernel
theorem dX11_clearColumn_13 : decode cX11_clearColumn 13 = .ok (.lcmp, 1) := by decide +kernel
theorem dX11_clearColumn_14 : decode cX11_clearColumn 14 = .ok (.ifCond .ne 9, 3) := by decide +kernel
theorem dX11_clearColumn_17 : decode cX11_clearColumn 17 = .ok (.iinc 2 1, 3) := by decide +kernel
theorem dX11_clearColumn_20 : decode cX11_clearColumn 20 = .ok (.goto (-18), 3) := by decide +kernel
theorem dX11_clearColumn_23 : decode cX11_clearColumn 23 = .ok (.iconst 0, 1) := by decide +kernel
theorem dX11_clearColumn_24 : decode cX11_clearColumn 24 = .ok (.istore_n 3, 1) := by decide +kernel
theorem dX11_clearColumn_25 : decode cX11_clearColumn 25 = .ok (.iload_n 3, 1) := by decide +kernel
theorem dX11_clearColumn_26 : decode cX11_clearColumn 26 = .ok (.iconst 5, 1) := by decide +kernel
theorem dX11_clearColumn_27 : decode cX11_clearColumn 27 = .ok (.if_icmp .ge 53, 3) := by decide +kernel
theorem dX11_clearColumn_30 : decode cX11_clearColumn 30 = .ok (.aload_n 0, 1) := by decide +kernel
theorem dX11_clearColumn_31 : decode cX11_clearColumn 31 = .ok (.getfield 48, 3) := by decide +kernel
theorem dX11_clearColumn_34 : decode cX11_clearColumn 34 = .ok (.iconst 5, 1) := by decide +kernel
theorem dX11_clearColumn_35 : decode cX11_clearColumn 35 = .ok (.iload_n 2, 1) := by decide +kernel
theorem dX11_clearColumn_36 : decode cX11_clearColumn 36 = .ok (.imul, 1) := by decide +kernel
theorem dX11_clearColumn_37 : decode cX11_clearColumn 37 = .ok (.iload_n 3, 1) := by decide +kernel
theorem dX11_clearColumn_38 : decode cX11_clearColumn 38 = .ok (.iadd, 1) := by decide +kernel
theorem dX11_clearColumn_39 : decode cX11_clearColumn 39 = .ok (.laload, 1) := by decide +kernel
theorem dX11_clearColumn_40 : decode cX11_clearColumn 40 = .ok (.lstore 4, 2) := by decide +kernel
theorem dX11_clearColumn_42 : decode cX11_clearColumn 42 = .ok (.aload_n 0, 1) := by decide +kernel
theorem dX11_clearColumn_43 : decode cX11_clearColumn 43 = .ok (.getfield 48, 3) := by decide +kernel
theorem dX11_clearColumn_46 : decode cX11_clearColumn 46 = .ok (.iconst 5, 1) := by decide +kernel
theorem dX11_clearColumn_47 : decode cX11_clearColumn 47 = .ok (.iload_n 2, 1) := by decide +kernel
theorem dX11_clearColumn_48 : decode cX11_clearColumn 48 = .ok (.imul, 1) := by decide +kernel
theorem dX11_clearColumn_49 : decode cX11_clearColumn 49 = .ok (.iload_n 3, 1) := by decide +kernel
theorem dX11_clearColumn_50 : decode cX11_clearColumn 50 = .ok (.iadd, 1) := by decide +kernel
theorem dX11_clearColumn_51 : decode cX11_clearColumn 51 = .ok (.aload_n 0, 1) := by decide +kernel
theorem dX11_clearColumn_52 : decode cX11_clearColumn 52 = .ok (.getfield 48, 3) := by decide +kernel
theorem dX11_clearColumn_55 : decode cX11_clearColumn 55 = .ok (.iconst 5, 1) := by decide +kernel
theorem dX11_clearColumn_56 : decode cX11_clearColumn 56 = .ok (.iload_n 1, 1) := by decide +kernel
theorem dX11_clearColumn_57 : decode cX11_clearColumn 57 = .ok (.imul, 1) := by decide +kernel
theorem dX11_clearColumn_58 : decode cX11_clearColumn 58 = .ok (.iload_n 3, 1) := by decide +kernel
theorem dX11_clearColumn_59 : decode cX11_clearColumn 59 = .ok (.iadd, 1) := by decide +kernel
theorem dX11_clearColumn_60 : decode cX11_clearColumn 60 = .ok (.laload, 1) := by decide +kernel
theorem dX11_clearColumn_61 : decode cX11_clearColumn 61 = .ok (.lastore, 1) := by decide +kernel
theorem dX11_clearColumn_62 : decode cX11_clearColumn 62 = .ok (.aload_n 0, 1) := by decide +kernel
theorem dX11_clearColumn_63 : decode cX11_clearColumn 63 = .ok (.getfield 48, 3) := by decide +kernel
theorem dX11_clearColumn_66 : decode cX11_clearColumn 66 = .ok (.iconst 5, 1) := by decide +kernel
theorem dX11_clearColumn_67 : decode cX11_clearColumn 67 = .ok (.iload_n 1, 1) := by decide +kernel
theorem dX11_clearColumn_68 : decode cX11_clearColumn 68 = .ok (.imul, 1) := by decide +kernel
theorem dX11_clearColumn_69 : decode cX11_clearColumn 69 = .ok (.iload_n 3, 1) := by decide +kernel
theorem dX11_clearColumn_70 : decode cX11_clearColumn 70 = .ok (.iadd, 1) := by decide +kernel
theorem dX11_clearColumn_71 : decode cX11_clearColumn 71 = .ok (.lload 4, 2) := by decide +kernel
theorem dX11_clearColumn_73 : decode cX11_clearColumn 73 = .ok (.lastore, 1) := by decide +kernel
theorem dX11_clearColumn_74 : decode cX11_clearColumn 74 = .ok (.iinc 3 1, 3) := by decide +kernel
theorem dX11_clearColumn_77 : decode cX11_clearColumn 77 = .ok (.goto (-52), 3) := by decide +kernel
theorem dX11_clearColumn_80 : decode cX11_clearColumn 80 = .ok (.iconst 0, 1) := by decide +kernel
theorem dX11_clearColumn_81 : decode cX11_clearColumn 81 = .ok (.istore_n 3, 1) := by decide +kernel
theorem dX11_clearColumn_82 : decode cX11_clearColumn 82 = .ok (.iload_n 3, 1) := by decide +kernel
theorem dX11_clearColumn_83 : decode cX11_clearColumn 83 = .ok (.iconst 4, 1) := by decide +kernel
theorem dX11_clearColumn_84 : decode cX11_clearColumn 84 = .ok (.if_icmp .ge 152, 3) := by decide +kernel
theorem dX11_clearColumn_87 : decode cX11_clearColumn 87 = .ok (.aload_n 0, 1) := by decide +kernel
theorem dX11_clearColumn_88 : decode cX11_clearColumn 88 = .ok (.getfield 48, 3) := by decide +kernel
theorem dX11_clearColumn_91 : decode cX11_clearColumn 91 = .ok (.iconst 5, 1) := by decide +kernel
theorem dX11_clearColumn_92 : decode cX11_clearColumn 92 = .ok (.iload_n 3, 1) := by decide +kernel
theorem dX11_clearColumn_93 : decode cX11_clearColumn 93 = .ok (.imul, 1) := by decide +kernel
theorem dX11_clearColumn_94 : decode cX11_clearColumn 94 = .ok (.iload_n 1, 1) := by decide +kernel
theorem dX11_clearColumn_95 : decode cX11_clearColumn 95 = .ok (.iadd, 1) := by decide +kernel
theorem dX11_clearColumn_96 : decode cX11_clearColumn 96 = .ok (.laload, 1) := by decide +kernel
theorem dX11_clearColumn_97 : decode cX11_clearColumn 97 = .ok (.lstore 4, 2) := by decide +kernel
theorem dX11_clearColumn_99 : decode cX11_clearColumn 99 = .ok (.aload_n 0, 1) := by decide +kernel
theorem dX11_clearColumn_100 : decode cX11_clearColumn 100 = .ok (.getfield 48, 3) := by decide +kernel
theorem dX11_clearColumn_103 : decode cX11_clearColumn 103 = .ok (.iconst 5, 1) := by decide +kernel
theorem dX11_clearColumn_104 : decode cX11_clearColumn 104 = .ok (.iload_n 1, 1) := by decide +kernel
theorem dX11_clearColumn_105 : decode cX11_clearColumn 105 = .ok (.imul, 1) := by decide +kernel
theorem dX11_clearColumn_106 : decode cX11_clearColumn 106 = .ok (.iload_n 1, 1) := by decide +kernel
theorem dX11_clearColumn_107 : decode cX11_clearColumn 107 = .ok (.iadd, 1) := by decide +kernel
theorem dX11_clearColumn_108 : decode cX11_clearColumn 108 = .ok (.laload, 1) := by decide +kernel
theorem dX11_clearColumn_109 : decode cX11_clearColumn 109 = .ok (.lstore 6, 2) := by decide +kernel
theorem dX11_clearColumn_111 : decode cX11_clearColumn 111 = .ok (.lconst 0, 1) := by decide +kernel
theorem dX11_clearColumn_112 : decode cX11_clearColumn 112 = .ok (.lstore 8, 2) := by decide +kernel
theorem dX11_clearColumn_114 : decode cX11_clearColumn 114 = .ok (.iconst 0, 1) := by decide +kernel
theorem dX11_clearColumn_115 : decode cX11_clearColumn 115 = .ok (.istore 10, 2) := by decide +kernel
theorem dX11_clearColumn_117 : decode cX11_clearColumn 117 = .ok (.iload 10, 2) := by decide +kernel
theorem dX11_clearColumn_119 : decode cX11_clearColumn 119 = .ok (.iconst 5, 1) := by decide +kernel
theorem dX11_clearColumn_120 : decode cX11_clearColumn 120 = .ok (.if_icmp .ge 72, 3) := by decide +kernel
theorem dX11_clearColumn_123 : decode cX11_clearColumn 123 = .ok (.iload_n 3, 1) := by decide +kernel
theorem dX11_clearColumn_124 : decode cX11_clearColumn 124 = .ok (.iload_n 1, 1) := by decide +kernel
theorem dX11_clearColumn_125 : decode cX11_clearColumn 125 = .ok (.if_icmp .eq 67, 3) := by decide +kernel
theorem dX11_clearColumn_128 : decode cX11_clearColumn 128 = .ok (.aload_n 0, 1) := by decide +kernel
theorem dX11_clearColumn_129 : decode cX11_clearColumn 129 = .ok (.getfield 48, 3) := by decide +kernel
theorem dX11_clearColumn_132 : decode cX11_clearColumn 132 = .ok (.iconst 5, 1) := by decide +kernel
theorem dX11_clearColumn_133 : decode cX11_clearColumn 133 = .ok (.iload_n 3, 1) := by decide +kernel
theorem dX11_clearColumn_134 : decode cX11_clearColumn 134 = .ok (.imul, 1) := by decide +kernel
theorem dX11_clearColumn_135 : decode cX11_clearColumn 135 = .ok (.iload 10, 2) := by decide +kernel
theorem dX11_clearColumn_137 : decode cX11_clearColumn 137 = .ok (.iadd, 1) := by decide +kernel
theorem dX11_clearColumn_138 : decode cX11_clearColumn 138 = .ok (.aload_n 0, 1) := by decide +kernel
theorem dX11_clearColumn_139 : decode cX11_clearColumn 139 = .ok (.getfield 48, 3) := by decide +kernel
theorem dX11_clearColumn_142 : decode cX11_clearColumn 142 = .ok (.iconst 5, 1) := by decide +kernel
theorem dX11_clearColumn_143 : decode cX11_clearColumn 143 = .ok (.iload_n 3, 1) := by decide +kernel
theorem dX11_clearColumn_144 : decode cX11_clearColumn 144 = .ok (.imul, 1) := by decide +kernel
theorem dX11_clearColumn_145 : decode cX11_clearColumn 145 = .ok (.iload 10, 2) := by decide +kernel
theorem dX11_clearColumn_147 : decode cX11_clearColumn 147 = .ok (.iadd, 1) := by decide +kernel
theorem dX11_clearColumn_148 : decode cX11_clearColumn 148 = .ok (.laload, 1) := by decide +kernel
theorem dX11_clearColumn_149 : decode cX11_clearColumn 149 = .ok (.lload 6, 2) := by decide +kernel
theorem dX11_clearColumn_151 : decode cX11_clearColumn 151 = .ok (.lmul, 1) := by decide +kernel
theorem dX11_clearColumn_152 : decode cX11_clearColumn 152 = .ok (.aload_n 0, 1) := by decide +kernel
theorem dX11_clearColumn_153 : decode cX11_clearColumn 153 = .ok (.getfield 48, 3) := by decide +kernel
theorem dX11_clearColumn_156 : decode cX11_clearColumn 156 = .ok (.iconst 5, 1) := by decide +kernel
theorem dX11_clearColumn_157 : decode cX11_clearColumn 157 = .ok (.iload_n 1, 1) := by decide +kernel
theorem dX11_clearColumn_158 : decode cX11_clearColumn 158 = .ok (.imul, 1) := by decide +kernel
theorem dX11_clearColumn_159 : decode cX11_clearColumn 159 = .ok (.iload 10, 2) := by decide +kernel
theorem dX11_clearColumn_161 : decode cX11_clearColumn 161 = .ok (.iadd, 1) := by decide +kernel
theorem dX11_clearColumn_162 : decode cX11_clearColumn 162 = .ok (.laload, 1) := by decide +kernel
theorem dX11_clearColumn_163 : decode cX11_clearColumn 163 = .ok (.lload 4, 2) := by decide +kernel
theorem dX11_clearColumn_165 : decode cX11_clearColumn 165 = .ok (.lmul, 1) := by decide +kernel
theorem dX11_clearColumn_166 : decode cX11_clearColumn 166 = .ok (.lsub, 1) := by decide +kernel
theorem dX11_clearColumn_167 : decode cX11_clearColumn 167 = .ok (.lastore, 1) := by decide +kernel
theorem dX11_clearColumn_168 : decode cX11_clearColumn 168 = .ok (.lload 8, 2) := by decide +kernel
theorem dX11_clearColumn_170 : decode cX11_clearColumn 170 = .ok (.aload_n 0, 1) := by decide +kernel
theorem dX11_clearColumn_171 : decode cX11_clearColumn 171 = .ok (.getfield 48, 3) := by decide +kernel
theorem dX11_clearColumn_174 : decode cX11_clearColumn 174 = .ok (.iconst 5, 1) := by decide +kernel
theorem dX11_clearColumn_175 : decode cX11_clearColumn 175 = .ok (.iload_n 3, 1) := by decide +kernel
theorem dX11_clearColumn_176 : decode cX11_clearColumn 176 = .ok (.imul, 1) := by decide +kernel
theorem dX11_clearColumn_177 : decode cX11_clearColumn 177 = .ok (.iload 10, 2) := by decide +kernel
theorem dX11_clearColumn_179 : decode cX11_clearColumn 179 = .ok (.iadd, 1) := by decide +kernel
theorem dX11_clearColumn_180 : decode cX11_clearColumn 180 = .ok (.laload, 1) := by decide +kernel
theorem dX11_clearColumn_181 : decode cX11_clearColumn 181 = .ok (.invokestatic 93, 3) := by decide +kernel
theorem dX11_clearColumn_184 : decode cX11_clearColumn 184 = .ok (.lstore 8, 2) := by decide +kernel
theorem dX11_clearColumn_186 : decode cX11_clearColumn 186 = .ok (.iinc 10 1, 3) := by decide +kernel
theorem dX11_clearColumn_189 : decode cX11_clearColumn 189 = .ok (.goto (-72), 3) := by decide +kernel
theorem dX11_clearColumn_192 : decode cX11_clearColumn 192 = .ok (.iconst 0, 1) := by decide +kernel
theorem dX11_clearColumn_193 : decode cX11_clearColumn 193 = .ok (.istore 10, 2) := by decide +kernel
theorem dX11_clearColumn_195 : decode cX11_clearColumn 195 = .ok (.iload 10, 2) := by decide +kernel
theorem dX11_clearColumn_197 : decode cX11_clearColumn 197 = .ok (.iconst 5, 1) := by decide +kernel
theorem dX11_clearColumn_198 : decode cX11_clearColumn 198 = .ok (.if_icmp .ge 32, 3) := by decide +kernel
theorem dX11_clearColumn_201 : decode cX11_clearColumn 201 = .ok (.lload 8, 2) := by decide +kernel
theorem dX11_clearColumn_203 : decode cX11_clearColumn 203 = .ok (.lconst 1, 1) := by decide +kernel
theorem dX11_clearColumn_204 : decode cX11_clearColumn 204 = .ok (.lcmp, 1) := by decide +kernel
theorem dX11_clearColumn_205 : decode cX11_clearColumn 205 = .ok (.ifCond .le 25, 3) := by decide +kernel
theorem dX11_clearColumn_208 : decode cX11_clearColumn 208 = .ok (.aload_n 0, 1) := by decide +kernel
theorem dX11_clearColumn_209 : decode cX11_clearColumn 209 = .ok (.getfield 48, 3) := by decide +kernel
theorem dX11_clearColumn_212 : decode cX11_clearColumn 212 = .ok (.iconst 5, 1) := by decide +kernel
theorem dX11_clearColumn_213 : decode cX11_clearColumn 213 = .ok (.iload_n 3, 1) := by decide +kernel
theorem dX11_clearColumn_214 : decode cX11_clearColumn 214 = .ok (.imul, 1) := by decide +kernel
theorem dX11_clearColumn_215 : decode cX11_clearColumn 215 = .ok (.iload 10, 2) := by decide +kernel
theorem dX11_clearColumn_217 : decode cX11_clearColumn 217 = .ok (.iadd, 1) := by decide +kernel
theorem dX11_clearColumn_218 : decode cX11_clearColumn 218 = .ok (.dup2, 1) := by decide +kernel
theorem dX11_clearColumn_219 : decode cX11_clearColumn 219 = .ok (.laload, 1) := by decide +kernel
theorem dX11_clearColumn_220 : decode cX11_clearColumn 220 = .ok (.lload 8, 2) := by decide +kernel
theorem dX11_clearColumn_222 : decode cX11_clearColumn 222 = .ok (.ldiv, 1) := by decide +kernel
theorem dX11_clearColumn_223 : decode cX11_clearColumn 223 = .ok (.lastore, 1) := by decide +kernel
theorem dX11_clearColumn_224 : decode cX11_clearColumn 224 = .ok (.iinc 10 1, 3) := by decide +kernel
theorem dX11_clearColumn_227 : decode cX11_clearColumn 227 = .ok (.goto (-32), 3) := by decide +kernel
theorem dX11_clearColumn_230 : decode cX11_clearColumn 230 = .ok (.iinc 3 1, 3) := by decide +kernel
theorem dX11_clearColumn_233 : decode cX11_clearColumn 233 = .ok (.goto (-151), 3) := by decide +kernel
theorem dX11_clearColumn_236 : decode cX11_clearColumn 236 = .ok (.return_, 1) := by decide +kernel
theorem dX11_findFactors_0 : decode cX11_findFactors 0 = .ok (.aload_n 0, 1) := by decide +kernel
theorem dX11_findFactors_1 : decode cX11_findFactors 1 = .ok (.iconst 0, 1) := by decide +kernel
theorem dX11_findFactors_2 : decode cX11_findFactors 2 = .ok (.putfield 136, 3) := by decide +kernel
theorem dX11_findFactors_5 : decode cX11_findFactors 5 = .ok (.iconst 0, 1) := by decide +kernel
theorem dX11_findFactors_6 : decode cX11_findFactors 6 = .ok (.istore_n 2, 1) := by decide +kernel
theorem dX11_findFactors_7 : decode cX11_findFactors 7 = .ok (.iload_n 2, 1) := by decide +kernel
theorem dX11_findFactors_8 : decode cX11_findFactors 8 = .ok (.bipush 9, 2) := by decide +kernel
theorem dX11_findFactors_10 : decode cX11_findFactors 10 = .ok (.if_icmp .ge 44, 3) := by decide +kernel
theorem dX11_findFactors_13 : decode cX11_findFactors 13 = .ok (.aload_n 0, 1) := by decide +kernel
theorem dX11_findFactors_14 : decode cX11_findFactors 14 = .ok (.getfield 42, 3) := by decide +kernel
theorem dX11_findFactors_17 : decode cX11_findFactors 17 = .ok (.iload_n 2, 1) := by decide +kernel
theorem dX11_findFactors_18 : decode cX11_findFactors 18 = .ok (.lconst 0, 1) := by decide +kernel
theorem dX11_findFactors_19 : decode cX11_findFactors 19 = .ok (.lastore, 1) := by decide +kernel
theorem dX11_findFactors_20 : decode cX11_findFactors 20 = .ok (.iload_n 1, 1) := by decide +kernel
theorem dX11_findFactors_21 : decode cX11_findFactors 21 = .ok (.iload_n 2, 1) := by decide +kernel
theorem dX11_findFactors_22 : decode cX11_findFactors 22 = .ok (.invokestatic 97, 3) := by decide +kernel
theorem dX11_findFactors_25 : decode cX11_findFactors 25 = .ok (.ifCond .eq 23, 3) := by decide +kernel
theorem dX11_findFactors_28 : decode cX11_findFactors 28 = .ok (.aload_n 0, 1) := by decide +kernel
theorem dX11_findFactors_29 : decode cX11_findFactors 29 = .ok (.getfield 45, 3) := by decide +kernel
theorem dX11_findFactors_32 : decode cX11_findFactors 32 = .ok (.aload_n 0, 1) := by decide +kernel
theorem dX11_findFactors_33 : decode cX11_findFactors 33 = .ok (.getfield 136, 3) := by decide +kernel
theorem dX11_findFactors_36 : decode cX11_findFactors 36 = .ok (.iload_n 2, 1) := by decide +kernel
theorem dX11_findFactors_37 : decode cX11_findFactors 37 = .ok (.iastore, 1) := by decide +kernel
theorem dX11_findFactors_38 : decode cX11_findFactors 38 = .ok (.aload_n 0, 1) := by decide +kernel
theorem dX11_findFactors_39 : decode cX11_findFactors 39 = .ok (.dup, 1) := by decide +kernel
theorem dX11_findFactors_40 : decode cX11_findFactors 40 = .ok (.getfield 136, 3) := by decide +kernel
theorem dX11_findFactors_43 : decode cX11_findFactors 43 = .ok (.iconst 1, 1) := by decide +kernel
theorem dX11_findFactors_44 : decode cX11_findFactors 44 = .ok (.iadd, 1) := by decide +kernel
theorem dX11_findFactors_45 : decode cX11_findFactors 45 = .ok (.putfield 136, 3) := by decide +kernel
theorem dX11_findFactors_48 : decode cX11_findFactors 48 = .ok (.iinc 2 1, 3) := by decide +kernel
theorem dX11_findFactors_51 : decode cX11_findFactors 51 = .ok (.goto (-44), 3) := by decide +kernel
theorem dX11_findFactors_54 : decode cX11_findFactors 54 = .ok (.iconst 0, 1) := by decide +kernel
theorem dX11_findFactors_55 : decode cX11_findFactors 55 = .ok (.istore_n 2, 1) := by decide +kernel
theorem dX11_findFactors_56 : decode cX11_findFactors 56 = .ok (.iload_n 2, 1) := by decide +kernel
theorem dX11_findFactors_57 : decode cX11_findFactors 57 = .ok (.iconst 4, 1) := by decide +kernel
theorem dX11_findFactors_58 : decode cX11_findFactors 58 = .ok (.if_icmp .ge 60, 3) := by decide +kernel
theorem dX11_findFactors_61 : decode cX11_findFactors 61 = .ok (.iconst 0, 1) := by decide +kernel
theorem dX11_findFactors_62 : decode cX11_findFactors 62 = .ok (.istore_n 3, 1) := by decide +kernel
theorem dX11_findFactors_63 : decode cX11_findFactors 63 = .ok (.iload_n 3, 1) := by decide +kernel
theorem dX11_findFactors_64 : decode cX11_findFactors 64 = .ok (.iconst 5, 1) := by decide +kernel
theorem dX11_findFactors_65 : decode cX11_findFactors 65 = .ok (.if_icmp .ge 47, 3) := by decide +kernel
theorem dX11_findFactors_68 : decode cX11_findFactors 68 = .ok (.aload_n 0, 1) := by decide +kernel
theorem dX11_findFactors_69 : decode cX11_findFactors 69 = .ok (.getfield 48, 3) := by decide +kernel
theorem dX11_findFactors_72 : decode cX11_findFactors 72 = .ok (.iconst 5, 1) := by decide +kernel
theorem dX11_findFactors_73 : decode cX11_findFactors 73 = .ok (.iload_n 2, 1) := by decide +kernel
theorem dX11_findFactors_74 : decode cX11_findFactors 74 = .ok (.imul, 1) := by decide +kernel
theorem dX11_findFactors_75 : decode cX11_findFactors 75 = .ok (.iload_n 3, 1) := by decide +kernel
theorem dX11_findFactors_76 : decode cX11_findFactors 76 = .ok (.iadd, 1) := by decide +kernel
theorem dX11_findFactors_77 : decode cX11_findFactors 77 = .ok (.iload_n 3, 1) := by decide +kernel
theorem dX11_findFactors_78 : decode cX11_findFactors 78 = .ok (.aload_n 0, 1) := by decide +kernel
theorem dX11_findFactors_79 : decode cX11_findFactors 79 = .ok (.getfield 136, 3) := by decide +kernel
theorem dX11_findFactors_82 : decode cX11_findFactors 82 = .ok (.if_icmp .ge 22, 3) := by decide +kernel
theorem dX11_findFactors_85 : decode cX11_findFactors 85 = .ok (.aload_n 0, 1) := by decide +kernel
theorem dX11_findFactors_86 : decode cX11_findFactors 86 = .ok (.getfield 7, 3) := by decide +kernel
theorem dX11_findFactors_89 : decode cX11_findFactors 89 = .ok (.iconst 4, 1) := by decide +kernel
theorem dX11_findFactors_90 : decode cX11_findFactors 90 = .ok (.aload_n 0, 1) := by decide +kernel
theorem dX11_findFactors_91 : decode cX11_findFactors 91 = .ok (.getfield 45, 3) := by decide +kernel
theorem dX11_findFactors_94 : decode cX11_findFactors 94 = .ok (.iload_n 3, 1) := by decide +kernel
theorem dX11_findFactors_95 : decode cX11_findFactors 95 = .ok (.iaload, 1) := by decide +kernel
theorem dX11_findFactors_96 : decode cX11_findFactors 96 = .ok (.imul, 1) := by decide +kernel
theorem dX11_findFactors_97 : decode cX11_findFactors 97 = .ok (.iload_n 2, 1) := by decide +kernel
theorem dX11_findFactors_98 : decode cX11_findFactors 98 = .ok (.iadd, 1) := by decide +kernel
theorem dX11_findFactors_99 : decode cX11_findFactors 99 = .ok (.iaload, 1) := by decide +kernel
theorem dX11_findFactors_100 : decode cX11_findFactors 100 = .ok (.i2l, 1) := by decide +kernel
theorem dX11_findFactors_101 : decode cX11_findFactors 101 = .ok (.goto 4, 3) := by decide +kernel
theorem dX11_findFactors_104 : decode cX11_findFactors 104 = .ok (.lconst 0, 1) := by decide +kernel
theorem dX11_findFactors_105 : decode cX11_findFactors 105 = .ok (.lastore, 1) := by decide +kernel
theorem dX11_findFactors_106 : decode cX11_findFactors 106 = .ok (.iinc 3 1, 3) := by decide +kernel
theorem dX11_findFactors_109 : decode cX11_findFactors 109 = .ok (.goto (-46), 3) := by decide +kernel
theorem dX11_findFactors_112 : decode cX11_findFactors 112 = .ok (.iinc 2 1, 3) := by decide +kernel
theorem dX11_findFactors_115 : decode cX11_findFactors 115 = .ok (.goto (-59), 3) := by decide +kernel
theorem dX11_findFactors_118 : decode cX11_findFactors 118 = .ok (.aload_n 0, 1) := by decide +kernel
theorem dX11_findFactors_119 : decode cX11_findFactors 119 = .ok (.getfield 136, 3) := by decide +kernel
theorem dX11_findFactors_122 : decode cX11_findFactors 122 = .ok (.iconst 1, 1) := by decide +kernel
theorem dX11_findFactors_123 : decode cX11_findFactors 123 = .ok (.isub, 1) := by decide +kernel
theorem dX11_findFactors_124 : decode cX11_findFactors 124 = .ok (.istore_n 2, 1) := by decide +kernel
theorem dX11_findFactors_125 : decode cX11_findFactors 125 = .ok (.iconst 0, 1) := by decide +kernel
theorem dX11_findFactors_126 : decode cX11_findFactors 126 = .ok (.istore_n 3, 1) := by decide +kernel
theorem dX11_findFactors_127 : decode cX11_findFactors 127 = .ok (.iload_n 3, 1) := by decide +kernel
theorem dX11_findFactors_128 : decode cX11_findFactors 128 = .ok (.iload_n 2, 1) := by decide +kernel
theorem dX11_findFactors_129 : decode cX11_findFactors 129 = .ok (.if_icmp .ge 14, 3) := by decide +kernel
theorem dX11_findFactors_132 : decode cX11_findFactors 132 = .ok (.aload_n 0, 1) := by decide +kernel
theorem dX11_findFactors_133 : decode cX11_findFactors 133 = .ok (.iload_n 3, 1) := by decide +kernel
theorem dX11_findFactors_134 : decode cX11_findFactors 134 = .ok (.invokevirtual 139, 3) := by decide +kernel
theorem dX11_findFactors_137 : decode cX11_findFactors 137 = .ok (.iinc 3 1, 3) := by decide +kernel
theorem dX11_findFactors_140 : decode cX11_findFactors 140 = .ok (.goto (-13), 3) := by decide +kernel
theorem dX11_findFactors_143 : decode cX11_findFactors 143 = .ok (.lconst 1, 1) := by decide +kernel
theorem dX11_findFactors_144 : decode cX11_findFactors 144 = .ok (.lstore_n 3, 1) := by decide +kernel
theorem dX11_findFactors_145 : decode cX11_findFactors 145 = .ok (.iconst 0, 1) := by decide +kernel
theorem dX11_findFactors_146 : decode cX11_findFactors 146 = .ok (.istore 5, 2) := by decide +kernel
theorem dX11_findFactors_148 : decode cX11_findFactors 148 = .ok (.iload 5, 2) := by decide +kernel
theorem dX11_findFactors_150 : decode cX11_findFactors 150 = .ok (.iload_n 2, 1) := by decide +kernel
theorem dX11_findFactors_151 : decode cX11_findFactors 151 = .ok (.if_icmp .ge 35, 3) := by decide +kernel
theorem dX11_findFactors_154 : decode cX11_findFactors 154 = .ok (.aload_n 0, 1) := by decide +kernel
theorem dX11_findFactors_155 : decode cX11_findFactors 155 = .ok (.getfield 48, 3) := by decide +kernel
theorem dX11_findFactors_158 : decode cX11_findFactors 158 = .ok (.iconst 5, 1) := by decide +kernel
theorem dX11_findFactors_159 : decode cX11_findFactors 159 = .ok (.iload 5, 2) := by decide +kernel
theorem dX11_findFactors_161 : decode cX11_findFactors 161 = .ok (.imul, 1) := by decide +kernel
theorem dX11_findFactors_162 : decode cX11_findFactors 162 = .ok (.iload 5, 2) := by decide +kernel
theorem dX11_findFactors_164 : decode cX11_findFactors 164 = .ok (.iadd, 1) := by decide +kernel
theorem dX11_findFactors_165 : decode cX11_findFactors 165 = .ok (.laload, 1) := by decide +kernel
theorem dX11_findFactors_166 : decode cX11_findFactors 166 = .ok (.lstore 6, 2) := by decide +kernel
theorem dX11_findFactors_168 : decode cX11_findFactors 168 = .ok (.lload_n 3, 1) := by decide +kernel
theorem dX11_findFactors_169 : decode cX11_findFactors 169 = .ok (.lload 6, 2) := by decide +kernel
theorem dX11_findFactors_171 : decode cX11_findFactors 171 = .ok (.lload_n 3, 1) := by decide +kernel
theorem dX11_findFactors_172 : decode cX11_findFactors 172 = .ok (.lload 6, 2) := by decide +kernel
theorem dX11_findFactors_174 : decode cX11_findFactors 174 = .ok (.invokestatic 93, 3) := by decide +kernel
theorem dX11_findFactors_177 : decode cX11_findFactors 177 = .ok (.ldiv, 1) := by decide +kernel
theorem dX11_findFactors_178 : decode cX11_findFactors 178 = .ok (.lmul, 1) := by decide +kernel
theorem dX11_findFactors_179 : decode cX11_findFactors 179 = .ok (.lstore_n 3, 1) := by decide +kernel
theorem dX11_findFactors_180 : decode cX11_findFactors 180 = .ok (.iinc 5 1, 3) := by decide +kernel
theorem dX11_findFactors_183 : decode cX11_findFactors 183 = .ok (.goto (-35), 3) := by decide +kernel
theorem dX11_findFactors_186 : decode cX11_findFactors 186 = .ok (.aload_n 0, 1) := by decide +kernel
theorem dX11_findFactors_187 : decode cX11_findFactors 187 = .ok (.getfield 42, 3) := by decide +kernel
theorem dX11_findFactors_190 : decode cX11_findFactors 190 = .ok (.aload_n 0, 1) := by decide +kernel
theorem dX11_findFactors_191 : decode cX11_findFactors 191 = .ok (.getfield 45, 3) := by decide +kernel
theorem dX11_findFactors_194 : decode cX11_findFactors 194 = .ok (.iload_n 2, 1) := by decide +kernel
theorem dX11_findFactors_195 : decode cX11_findFactors 195 = .ok (.iaload, 1) := by decide +kernel
theorem dX11_findFactors_196 : decode cX11_findFactors 196 = .ok (.lload_n 3, 1) := by decide +kernel
theorem dX11_findFactors_197 : decode cX11_findFactors 197 = .ok (.lastore, 1) := by decide +kernel
theorem dX11_findFactors_198 : decode cX11_findFactors 198 = .ok (.lload_n 3, 1) := by decide +kernel
theorem dX11_findFactors_199 : decode cX11_findFactors 199 = .ok (.lstore 5, 2) := by decide +kernel
theorem dX11_findFactors_201 : decode cX11_findFactors 201 = .ok (.iconst 0, 1) := by decide +kernel
theorem dX11_findFactors_202 : decode cX11_findFactors 202 = .ok (.istore 7, 2) := by decide +kernel
theorem dX11_findFactors_204 : decode cX11_findFactors 204 = .ok (.iload 7, 2) := by decide +kernel
theorem dX11_findFactors_206 : decode cX11_findFactors 206 = .ok (.iload_n 2, 1) := by decide +kernel
theorem dX11_findFactors_207 : decode cX11_findFactors 207 = .ok (.if_icmp .ge 67, 3) := by decide +kernel
theorem dX11_findFactors_210 : decode cX11_findFactors 210 = .ok (.aload_n 0, 1) := by decide +kernel
theorem dX11_findFactors_211 : decode cX11_findFactors 211 = .ok (.getfield 42, 3) := by decide +kernel
theorem dX11_findFactors_214 : decode cX11_findFactors 214 = .ok (.aload_n 0, 1) := by decide +kernel
theorem dX11_findFactors_215 : decode cX11_findFactors 215 = .ok (.getfield 45, 3) := by decide +kernel
theorem dX11_findFactors_218 : decode cX11_findFactors 218 = .ok (.iload 7, 2) := by decide +kernel
theorem dX11_findFactors_220 : decode cX11_findFactors 220 = .ok (.iaload, 1) := by decide +kernel
theorem dX11_findFactors_221 : decode cX11_findFactors 221 = .ok (.aload_n 0, 1) := by decide +kernel
theorem dX11_findFactors_222 : decode cX11_findFactors 222 = .ok (.getfield 48, 3) := by decide +kernel
theorem dX11_findFactors_225 : decode cX11_findFactors 225 = .ok (.iconst 5, 1) := by decide +kernel
theorem dX11_findFactors_226 : decode cX11_findFactors 226 = .ok (.iload 7, 2) := by decide +kernel
theorem dX11_findFactors_228 : decode cX11_findFactors 228 = .ok (.imul, 1) := by decide +kernel
theorem dX11_findFactors_229 : decode cX11_findFactors 229 = .ok (.iload_n 2, 1) := by decide +kernel
theorem dX11_findFactors_230 : decode cX11_findFactors 230 = .ok (.iadd, 1) := by decide +kernel
theorem dX11_findFactors_231 : decode cX11_findFactors 231 = .ok (.laload, 1) := by decide +kernel
theorem dX11_findFactors_232 : decode cX11_findFactors 232 = .ok (.lneg, 1) := by decide +kernel
theorem dX11_findFactors_233 : decode cX11_findFactors 233 = .ok (.lload_n 3, 1) := by decide +kernel
theorem dX11_findFactors_234 : decode cX11_findFactors 234 = .ok (.aload_n 0, 1) := by decide +kernel
theorem dX11_findFactors_235 : decode cX11_findFactors 235 = .ok (.getfield 48, 3) := by decide +kernel
theorem dX11_findFactors_238 : decode cX11_findFactors 238 = .ok (.iconst 5, 1) := by decide +kernel
theorem dX11_findFactors_239 : decode cX11_findFactors 239 = .ok (.iload 7, 2) := by decide +kernel
theorem dX11_findFactors_241 : decode cX11_findFactors 241 = .ok (.imul, 1) := by decide +kernel
theorem dX11_findFactors_242 : decode cX11_findFactors 242 = .ok (.iload 7, 2) := by decide +kernel
theorem dX11_findFactors_244 : decode cX11_findFactors 244 = .ok (.iadd, 1) := by decide +kernel
theorem dX11_findFactors_245 : decode cX11_findFactors 245 = .ok (.laload, 1) := by decide +kernel
theorem dX11_findFactors_246 : decode cX11_findFactors 246 = .ok (.ldiv, 1) := by decide +kernel
theorem dX11_findFactors_247 : decode cX11_findFactors 247 = .ok (.lmul, 1) := by decide +kernel
theorem dX11_findFactors_248 : decode cX11_findFactors 248 = .ok (.lastore, 1) := by decide +kernel
theorem dX11_findFactors_249 : decode cX11_findFactors 249 = .ok (.lload 5, 2) := by decide +kernel
theorem dX11_findFactors_251 : decode cX11_findFactors 251 = .ok (.aload_n 0, 1) := by decide +kernel
theorem dX11_findFactors_252 : decode cX11_findFactors 252 = .ok (.getfield 42, 3) := by decide +kernel
theorem dX11_findFactors_255 : decode cX11_findFactors 255 = .ok (.aload_n 0, 1) := by decide +kernel
theorem dX11_findFactors_256 : decode cX11_findFactors 256 = .ok (.getfield 45, 3) := by decide +kernel
theorem dX11_findFactors_259 : decode cX11_findFactors 259 = .ok (.iload 7, 2) := by decide +kernel
theorem dX11_findFactors_261 : decode cX11_findFactors 261 = .ok (.iaload, 1) := by decide +kernel
theorem dX11_findFactors_262 : decode cX11_findFactors 262 = .ok (.laload, 1) := by decide +kernel
theorem dX11_findFactors_263 : decode cX11_findFactors 263 = .ok (.invokestatic 93, 3) := by decide +kernel
theorem dX11_findFactors_266 : decode cX11_findFactors 266 = .ok (.lstore 5, 2) := by decide +kernel
theorem dX11_findFactors_268 : decode cX11_findFactors 268 = .ok (.iinc 7 1, 3) := by decide +kernel
theorem dX11_findFactors_271 : decode cX11_findFactors 271 = .ok (.goto (-67), 3) := by decide +kernel
theorem dX11_findFactors_274 : decode cX11_findFactors 274 = .ok (.aload_n 0, 1) := by decide +kernel
theorem dX11_findFactors_275 : decode cX11_findFactors 275 = .ok (.getfield 42, 3) := by decide +kernel
theorem dX11_findFactors_278 : decode cX11_findFactors 278 = .ok (.aload_n 0, 1) := by decide +kernel
theorem dX11_findFactors_279 : decode cX11_findFactors 279 = .ok (.getfield 45, 3) := by decide +kernel
theorem dX11_findFactors_282 : decode cX11_findFactors 282 = .ok (.iconst 0, 1) := by decide +kernel
theorem dX11_findFactors_283 : decode cX11_findFactors 283 = .ok (.iaload, 1) := by decide +kernel
theorem dX11_findFactors_284 : decode cX11_findFactors 284 = .ok (.laload, 1) := by decide +kernel
theorem dX11_findFactors_285 : decode cX11_findFactors 285 = .ok (.lconst 0, 1) := by decide +kernel
theorem dX11_findFactors_286 : decode cX11_findFactors 286 = .ok (.lcmp, 1) := by decide +kernel
theorem dX11_findFactors_287 : decode cX11_findFactors 287 = .ok (.ifCond .ge 9, 3) := by decide +kernel
theorem dX11_findFactors_290 : decode cX11_findFactors 290 = .ok (.lload 5, 2) := by decide +kernel
theorem dX11_findFactors_292 : decode cX11_findFactors 292 = .ok (.lneg, 1) := by decide +kernel
theorem dX11_findFactors_293 : decode cX11_findFactors 293 = .ok (.goto 5, 3) := by decide +kernel
theorem dX11_findFactors_296 : decode cX11_findFactors 296 = .ok (.lload 5, 2) := by decide +kernel
theorem dX11_findFactors_298 : decode cX11_findFactors 298 = .ok (.lstore 5, 2) := by decide +kernel
theorem dX11_findFactors_300 : decode cX11_findFactors 300 = .ok (.iconst 0, 1) := by decide +kernel
theorem dX11_findFactors_301 : decode cX11_findFactors 301 = .ok (.istore 7, 2) := by decide +kernel
theorem dX11_findFactors_303 : decode cX11_findFactors 303 = .ok (.iload 7, 2) := by decide +kernel
theorem dX11_findFactors_305 : decode cX11_findFactors 305 = .ok (.bipush 9, 2) := by decide +kernel
theorem dX11_findFactors_307 : decode cX11_findFactors 307 = .ok (.if_icmp .ge 21, 3) := by decide +kernel
theorem dX11_findFactors_310 : decode cX11_findFactors 310 = .ok (.aload_n 0, 1) := by decide +kernel
theorem dX11_findFactors_311 : decode cX11_findFactors 311 = .ok (.getfield 42, 3) := by decide +kernel
theorem dX11_findFactors_314 : decode cX11_findFactors 314 = .ok (.iload 7, 2) := by decide +kernel
