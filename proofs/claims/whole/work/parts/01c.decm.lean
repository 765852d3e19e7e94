theorem dX11_isPart_20 : decode cX11_isPart 20 = .ok (.iaload, 1) := by decide +kernel
theorem dX11_isPart_21 : decode cX11_isPart 21 = .ok (.iand, 1) := by decide +kernel
theorem dX11_isPart_22 : decode cX11_isPart 22 = .ok (.istore_n 3, 1) := by decide +kernel
theorem dX11_isPart_23 : decode cX11_isPart 23 = .ok (.iload_n 3, 1) := by decide +kernel
theorem dX11_isPart_24 : decode cX11_isPart 24 = .ok (.aload_n 0, 1) := by decide +kernel
theorem dX11_isPart_25 : decode cX11_isPart 25 = .ok (.getfield 39, 3) := by decide +kernel
theorem dX11_isPart_28 : decode cX11_isPart 28 = .ok (.iload_n 2, 1) := by decide +kernel
theorem dX11_isPart_29 : decode cX11_isPart 29 = .ok (.iaload, 1) := by decide +kernel
theorem dX11_isPart_30 : decode cX11_isPart 30 = .ok (.if_icmp .eq 22, 3) := by decide +kernel
theorem dX11_isPart_33 : decode cX11_isPart 33 = .ok (.iload_n 3, 1) := by decide +kernel
theorem dX11_isPart_34 : decode cX11_isPart 34 = .ok (.aload_n 0, 1) := by decide +kernel
theorem dX11_isPart_35 : decode cX11_isPart 35 = .ok (.getfield 36, 3) := by decide +kernel
theorem dX11_isPart_38 : decode cX11_isPart 38 = .ok (.iload_n 2, 1) := by decide +kernel
theorem dX11_isPart_39 : decode cX11_isPart 39 = .ok (.iaload, 1) := by decide +kernel
theorem dX11_isPart_40 : decode cX11_isPart 40 = .ok (.aload_n 0, 1) := by decide +kernel
theorem dX11_isPart_41 : decode cX11_isPart 41 = .ok (.getfield 39, 3) := by decide +kernel
theorem dX11_isPart_44 : decode cX11_isPart 44 = .ok (.iload_n 2, 1) := by decide +kernel
theorem dX11_isPart_45 : decode cX11_isPart 45 = .ok (.iaload, 1) := by decide +kernel
theorem dX11_isPart_46 : decode cX11_isPart 46 = .ok (.iconst (-1), 1) := by decide +kernel
theorem dX11_isPart_47 : decode cX11_isPart 47 = .ok (.ixor, 1) := by decide +kernel
theorem dX11_isPart_48 : decode cX11_isPart 48 = .ok (.iand, 1) := by decide +kernel
theorem dX11_isPart_49 : decode cX11_isPart 49 = .ok (.if_icmp .ne 5, 3) := by decide +kernel
theorem dX11_isPart_52 : decode cX11_isPart 52 = .ok (.iconst 0, 1) := by decide +kernel
theorem dX11_isPart_53 : decode cX11_isPart 53 = .ok (.ireturn, 1) := by decide +kernel
theorem dX11_isPart_54 : decode cX11_isPart 54 = .ok (.iinc 2 1, 3) := by decide +kernel
theorem dX11_isPart_57 : decode cX11_isPart 57 = .ok (.goto (-51), 3) := by decide +kernel
theorem dX11_isPart_60 : decode cX11_isPart 60 = .ok (.iconst 1, 1) := by decide +kernel
theorem dX11_isPart_61 : decode cX11_isPart 61 = .ok (.ireturn, 1) := by decide +kernel
theorem dX11_partMany_0 : decode cX11_partMany 0 = .ok (.iconst 0, 1) := by decide +kernel
theorem dX11_partMany_1 : decode cX11_partMany 1 = .ok (.istore_n 1, 1) := by decide +kernel
theorem dX11_partMany_2 : decode cX11_partMany 2 = .ok (.iconst 0, 1) := by decide +kernel
theorem dX11_partMany_3 : decode cX11_partMany 3 = .ok (.istore_n 2, 1) := by decide +kernel
theorem dX11_partMany_4 : decode cX11_partMany 4 = .ok (.iload_n 2, 1) := by decide +kernel
theorem dX11_partMany_5 : decode cX11_partMany 5 = .ok (.aload_n 0, 1) := by decide +kernel
theorem dX11_partMany_6 : decode cX11_partMany 6 = .ok (.invokevirtual 109, 3) := by decide +kernel
theorem dX11_partMany_9 : decode cX11_partMany 9 = .ok (.if_icmp .gt 25, 3) := by decide +kernel
theorem dX11_partMany_12 : decode cX11_partMany 12 = .ok (.iload_n 1, 1) := by decide +kernel
theorem dX11_partMany_13 : decode cX11_partMany 13 = .ok (.aload_n 0, 1) := by decide +kernel
theorem dX11_partMany_14 : decode cX11_partMany 14 = .ok (.iload_n 2, 1) := by decide +kernel
theorem dX11_partMany_15 : decode cX11_partMany 15 = .ok (.invokevirtual 209, 3) := by decide +kernel
theorem dX11_partMany_18 : decode cX11_partMany 18 = .ok (.ifCond .eq 7, 3) := by decide +kernel
theorem dX11_partMany_21 : decode cX11_partMany 21 = .ok (.iconst 1, 1) := by decide +kernel
theorem dX11_partMany_22 : decode cX11_partMany 22 = .ok (.goto 4, 3) := by decide +kernel
theorem dX11_partMany_25 : decode cX11_partMany 25 = .ok (.iconst 0, 1) := by decide +kernel
theorem dX11_partMany_26 : decode cX11_partMany 26 = .ok (.iadd, 1) := by decide +kernel
theorem dX11_partMany_27 : decode cX11_partMany 27 = .ok (.istore_n 1, 1) := by decide +kernel
theorem dX11_partMany_28 : decode cX11_partMany 28 = .ok (.iinc 2 1, 3) := by decide +kernel
theorem dX11_partMany_31 : decode cX11_partMany 31 = .ok (.goto (-27), 3) := by decide +kernel
theorem dX11_partMany_34 : decode cX11_partMany 34 = .ok (.iload_n 1, 1) := by decide +kernel
theorem dX11_partMany_35 : decode cX11_partMany 35 = .ok (.ireturn, 1) := by decide +kernel
theorem dX11_parts_0 : decode cX11_parts 0 = .ok (.iload_n 1, 1) := by decide +kernel
theorem dX11_parts_1 : decode cX11_parts 1 = .ok (.iconst (-1), 1) := by decide +kernel
theorem dX11_parts_2 : decode cX11_parts 2 = .ok (.if_icmp .ge 10, 3) := by decide +kernel
theorem dX11_parts_5 : decode cX11_parts 5 = .ok (.aload_n 0, 1) := by decide +kernel
theorem dX11_parts_6 : decode cX11_parts 6 = .ok (.bipush (-2), 2) := by decide +kernel
theorem dX11_parts_8 : decode cX11_parts 8 = .ok (.invokevirtual 89, 3) := by decide +kernel
theorem dX11_parts_11 : decode cX11_parts 11 = .ok (.ireturn, 1) := by decide +kernel
theorem dX11_parts_12 : decode cX11_parts 12 = .ok (.iload_n 1, 1) := by decide +kernel
theorem dX11_parts_13 : decode cX11_parts 13 = .ok (.iconst (-1), 1) := by decide +kernel
theorem dX11_parts_14 : decode cX11_parts 14 = .ok (.if_icmp .ne 8, 3) := by decide +kernel
theorem dX11_parts_17 : decode cX11_parts 17 = .ok (.aload_n 0, 1) := by decide +kernel
theorem dX11_parts_18 : decode cX11_parts 18 = .ok (.invokevirtual 177, 3) := by decide +kernel
theorem dX11_parts_21 : decode cX11_parts 21 = .ok (.ireturn, 1) := by decide +kernel
theorem dX11_parts_22 : decode cX11_parts 22 = .ok (.iload_n 1, 1) := by decide +kernel
theorem dX11_parts_23 : decode cX11_parts 23 = .ok (.istore_n 2, 1) := by decide +kernel
theorem dX11_parts_24 : decode cX11_parts 24 = .ok (.iconst 0, 1) := by decide +kernel
theorem dX11_parts_25 : decode cX11_parts 25 = .ok (.istore_n 3, 1) := by decide +kernel
theorem dX11_parts_26 : decode cX11_parts 26 = .ok (.iload_n 3, 1) := by decide +kernel
theorem dX11_parts_27 : decode cX11_parts 27 = .ok (.aload_n 0, 1) := by decide +kernel
theorem dX11_parts_28 : decode cX11_parts 28 = .ok (.invokevirtual 109, 3) := by decide +kernel
theorem dX11_parts_31 : decode cX11_parts 31 = .ok (.if_icmp .gt 26, 3) := by decide +kernel
theorem dX11_parts_34 : decode cX11_parts 34 = .ok (.aload_n 0, 1) := by decide +kernel
theorem dX11_parts_35 : decode cX11_parts 35 = .ok (.iload_n 3, 1) := by decide +kernel
theorem dX11_parts_36 : decode cX11_parts 36 = .ok (.invokevirtual 209, 3) := by decide +kernel
theorem dX11_parts_39 : decode cX11_parts 39 = .ok (.ifCond .eq 12, 3) := by decide +kernel
theorem dX11_parts_42 : decode cX11_parts 42 = .ok (.iload_n 2, 1) := by decide +kernel
theorem dX11_parts_43 : decode cX11_parts 43 = .ok (.ifCond .ne 5, 3) := by decide +kernel
theorem dX11_parts_46 : decode cX11_parts 46 = .ok (.iload_n 3, 1) := by decide +kernel
theorem dX11_parts_47 : decode cX11_parts 47 = .ok (.ireturn, 1) := by decide +kernel
theorem dX11_parts_48 : decode cX11_parts 48 = .ok (.iinc 2 (-1), 3) := by decide +kernel
theorem dX11_parts_51 : decode cX11_parts 51 = .ok (.iinc 3 1, 3) := by decide +kernel
theorem dX11_parts_54 : decode cX11_parts 54 = .ok (.goto (-28), 3) := by decide +kernel
theorem dX11_parts_57 : decode cX11_parts 57 = .ok (.bipush (-5), 2) := by decide +kernel
theorem dX11_parts_59 : decode cX11_parts 59 = .ok (.ireturn, 1) := by decide +kernel
theorem dX11_wallsOf_0 : decode cX11_wallsOf 0 = .ok (.iconst 0, 1) := by decide +kernel
theorem dX11_wallsOf_1 : decode cX11_wallsOf 1 = .ok (.istore_n 2, 1) := by decide +kernel
theorem dX11_wallsOf_2 : decode cX11_wallsOf 2 = .ok (.iconst 0, 1) := by decide +kernel
theorem dX11_wallsOf_3 : decode cX11_wallsOf 3 = .ok (.istore_n 3, 1) := by decide +kernel
theorem dX11_wallsOf_4 : decode cX11_wallsOf 4 = .ok (.iload_n 3, 1) := by decide +kernel
theorem dX11_wallsOf_5 : decode cX11_wallsOf 5 = .ok (.aload_n 0, 1) := by decide +kernel
theorem dX11_wallsOf_6 : decode cX11_wallsOf 6 = .ok (.getfield 7, 3) := by decide +kernel
theorem dX11_wallsOf_9 : decode cX11_wallsOf 9 = .ok (.bipush 37, 2) := by decide +kernel
theorem dX11_wallsOf_11 : decode cX11_wallsOf 11 = .ok (.iaload, 1) := by decide +kernel
theorem dX11_wallsOf_12 : decode cX11_wallsOf 12 = .ok (.if_icmp .ge 31, 3) := by decide +kernel
theorem dX11_wallsOf_15 : decode cX11_wallsOf 15 = .ok (.iload_n 2, 1) := by decide +kernel
theorem dX11_wallsOf_16 : decode cX11_wallsOf 16 = .ok (.aload_n 0, 1) := by decide +kernel
theorem dX11_wallsOf_17 : decode cX11_wallsOf 17 = .ok (.iload_n 1, 1) := by decide +kernel
theorem dX11_wallsOf_18 : decode cX11_wallsOf 18 = .ok (.iconst 1, 1) := by decide +kernel
theorem dX11_wallsOf_19 : decode cX11_wallsOf 19 = .ok (.iload_n 3, 1) := by decide +kernel
theorem dX11_wallsOf_20 : decode cX11_wallsOf 20 = .ok (.ishl, 1) := by decide +kernel
theorem dX11_wallsOf_21 : decode cX11_wallsOf 21 = .ok (.ixor, 1) := by decide +kernel
theorem dX11_wallsOf_22 : decode cX11_wallsOf 22 = .ok (.invokevirtual 209, 3) := by decide +kernel
theorem dX11_wallsOf_25 : decode cX11_wallsOf 25 = .ok (.ifCond .eq 9, 3) := by decide +kernel
theorem dX11_wallsOf_28 : decode cX11_wallsOf 28 = .ok (.iconst 1, 1) := by decide +kernel
theorem dX11_wallsOf_29 : decode cX11_wallsOf 29 = .ok (.iload_n 3, 1) := by decide +kernel
theorem dX11_wallsOf_30 : decode cX11_wallsOf 30 = .ok (.ishl, 1) := by decide +kernel
theorem dX11_wallsOf_31 : decode cX11_wallsOf 31 = .ok (.goto 4, 3) := by decide +kernel
theorem dX11_wallsOf_34 : decode cX11_wallsOf 34 = .ok (.iconst 0, 1) := by decide +kernel
theorem dX11_wallsOf_35 : decode cX11_wallsOf 35 = .ok (.ior, 1) := by decide +kernel
theorem dX11_wallsOf_36 : decode cX11_wallsOf 36 = .ok (.istore_n 2, 1) := by decide +kernel
theorem dX11_wallsOf_37 : decode cX11_wallsOf 37 = .ok (.iinc 3 1, 3) := by decide +kernel
theorem dX11_wallsOf_40 : decode cX11_wallsOf 40 = .ok (.goto (-36), 3) := by decide +kernel
theorem dX11_wallsOf_43 : decode cX11_wallsOf 43 = .ok (.iload_n 2, 1) := by decide +kernel
theorem dX11_wallsOf_44 : decode cX11_wallsOf 44 = .ok (.ireturn, 1) := by decide +kernel
theorem dX11_walls_0 : decode cX11_walls 0 = .ok (.aload_n 0, 1) := by decide +kernel
theorem dX11_walls_1 : decode cX11_walls 1 = .ok (.iload_n 1, 1) := by decide +kernel
theorem dX11_walls_2 : decode cX11_walls 2 = .ok (.invokevirtual 193, 3) := by decide +kernel
theorem dX11_walls_5 : decode cX11_walls 5 = .ok (.ifCond .ne 10, 3) := by decide +kernel
theorem dX11_walls_8 : decode cX11_walls 8 = .ok (.aload_n 0, 1) := by decide +kernel
theorem dX11_walls_9 : decode cX11_walls 9 = .ok (.bipush (-2), 2) := by decide +kernel
theorem dX11_walls_11 : decode cX11_walls 11 = .ok (.invokevirtual 89, 3) := by decide +kernel
theorem dX11_walls_14 : decode cX11_walls 14 = .ok (.ireturn, 1) := by decide +kernel
theorem dX11_walls_15 : decode cX11_walls 15 = .ok (.aload_n 0, 1) := by decide +kernel
theorem dX11_walls_16 : decode cX11_walls 16 = .ok (.iload_n 1, 1) := by decide +kernel
theorem dX11_walls_17 : decode cX11_walls 17 = .ok (.invokevirtual 209, 3) := by decide +kernel
theorem dX11_walls_20 : decode cX11_walls 20 = .ok (.ifCond .eq 11, 3) := by decide +kernel
theorem dX11_walls_23 : decode cX11_walls 23 = .ok (.aload_n 0, 1) := by decide +kernel
theorem dX11_walls_24 : decode cX11_walls 24 = .ok (.iload_n 1, 1) := by decide +kernel
theorem dX11_walls_25 : decode cX11_walls 25 = .ok (.invokevirtual 212, 3) := by decide +kernel
theorem dX11_walls_28 : decode cX11_walls 28 = .ok (.goto 9, 3) := by decide +kernel
theorem dX11_walls_31 : decode cX11_walls 31 = .ok (.aload_n 0, 1) := by decide +kernel
theorem dX11_walls_32 : decode cX11_walls 32 = .ok (.bipush (-3), 2) := by decide +kernel
theorem dX11_walls_34 : decode cX11_walls 34 = .ok (.invokevirtual 89, 3) := by decide +kernel
theorem dX11_walls_37 : decode cX11_walls 37 = .ok (.ireturn, 1) := by decide +kernel
theorem dX11_way_0 : decode cX11_way 0 = .ok (.aload_n 0, 1) := by decide +kernel
theorem dX11_way_1 : decode cX11_way 1 = .ok (.iload_n 1, 1) := by decide +kernel
theorem dX11_way_2 : decode cX11_way 2 = .ok (.invokevirtual 193, 3) := by decide +kernel
theorem dX11_way_5 : decode cX11_way 5 = .ok (.ifCond .eq 20, 3) := by decide +kernel
theorem dX11_way_8 : decode cX11_way 8 = .ok (.aload_n 0, 1) := by decide +kernel
theorem dX11_way_9 : decode cX11_way 9 = .ok (.iload_n 2, 1) := by decide +kernel
theorem dX11_way_10 : decode cX11_way 10 = .ok (.invokevirtual 193, 3) := by decide +kernel
theorem dX11_way_13 : decode cX11_way 13 = .ok (.ifCond .eq 12, 3) := by decide +kernel
theorem dX11_way_16 : decode cX11_way 16 = .ok (.iload_n 3, 1) := by decide +kernel
theorem dX11_way_17 : decode cX11_way 17 = .ok (.iconst 0, 1) := by decide +kernel
theorem dX11_way_18 : decode cX11_way 18 = .ok (.iconst 1, 1) := by decide +kernel
theorem dX11_way_19 : decode cX11_way 19 = .ok (.invokestatic 113, 3) := by decide +kernel
theorem dX11_way_22 : decode cX11_way 22 = .ok (.ifCond .ne 10, 3) := by decide +kernel
theorem dX11_way_25 : decode cX11_way 25 = .ok (.aload_n 0, 1) := by decide +kernel
theorem dX11_way_26 : decode cX11_way 26 = .ok (.bipush (-2), 2) := by decide +kernel
theorem dX11_way_28 : decode cX11_way 28 = .ok (.invokevirtual 89, 3) := by decide +kernel
theorem dX11_way_31 : decode cX11_way 31 = .ok (.ireturn, 1) := by decide +kernel
theorem dX11_way_32 : decode cX11_way 32 = .ok (.aload_n 0, 1) := by decide +kernel
theorem dX11_way_33 : decode cX11_way 33 = .ok (.iload_n 1, 1) := by decide +kernel
theorem dX11_way_34 : decode cX11_way 34 = .ok (.invokevirtual 209, 3) := by decide +kernel
theorem dX11_way_37 : decode cX11_way 37 = .ok (.ifCond .eq 11, 3) := by decide +kernel
theorem dX11_way_40 : decode cX11_way 40 = .ok (.aload_n 0, 1) := by decide +kernel
theorem dX11_way_41 : decode cX11_way 41 = .ok (.iload_n 2, 1) := by decide +kernel
theorem dX11_way_42 : decode cX11_way 42 = .ok (.invokevirtual 209, 3) := by decide +kernel
theorem dX11_way_45 : decode cX11_way 45 = .ok (.ifCond .ne 10, 3) := by decide +kernel
theorem dX11_way_48 : decode cX11_way 48 = .ok (.aload_n 0, 1) := by decide +kernel
theorem dX11_way_49 : decode cX11_way 49 = .ok (.bipush (-3), 2) := by decide +kernel
theorem dX11_way_51 : decode cX11_way 51 = .ok (.invokevirtual 89, 3) := by decide +kernel
theorem dX11_way_54 : decode cX11_way 54 = .ok (.ireturn, 1) := by decide +kernel
theorem dX11_way_55 : decode cX11_way 55 = .ok (.iconst 0, 1) := by decide +kernel
theorem dX11_way_56 : decode cX11_way 56 = .ok (.istore 4, 2) := by decide +kernel
theorem dX11_way_58 : decode cX11_way 58 = .ok (.iload 4, 2) := by decide +kernel
theorem dX11_way_60 : decode cX11_way 60 = .ok (.sipush 512, 3) := by decide +kernel
theorem dX11_way_63 : decode cX11_way 63 = .ok (.if_icmp .ge 25, 3) := by decide +kernel
theorem dX11_way_66 : decode cX11_way 66 = .ok (.aload_n 0, 1) := by decide +kernel
theorem dX11_way_67 : decode cX11_way 67 = .ok (.getfield 57, 3) := by decide +kernel
theorem dX11_way_70 : decode cX11_way 70 = .ok (.iload 4, 2) := by decide +kernel
theorem dX11_way_72 : decode cX11_way 72 = .ok (.iconst (-1), 1) := by decide +kernel
theorem dX11_way_73 : decode cX11_way 73 = .ok (.iastore, 1) := by decide +kernel
theorem dX11_way_74 : decode cX11_way 74 = .ok (.aload_n 0, 1) := by decide +kernel
theorem dX11_way_75 : decode cX11_way 75 = .ok (.getfield 60, 3) := by decide +kernel
theorem dX11_way_78 : decode cX11_way 78 = .ok (.iload 4, 2) := by decide +kernel
theorem dX11_way_80 : decode cX11_way 80 = .ok (.iconst 0, 1) := by decide +kernel
theorem dX11_way_81 : decode cX11_way 81 = .ok (.iastore, 1) := by decide +kernel
theorem dX11_way_82 : decode cX11_way 82 = .ok (.iinc 4 1, 3) := by decide +kernel
theorem dX11_way_85 : decode cX11_way 85 = .ok (.goto (-27), 3) := by decide +kernel
theorem dX11_way_88 : decode cX11_way 88 = .ok (.aload_n 0, 1) := by decide +kernel
theorem dX11_way_89 : decode cX11_way 89 = .ok (.getfield 57, 3) := by decide +kernel
theorem dX11_way_92 : decode cX11_way 92 = .ok (.iload_n 1, 1) := by decide +kernel
theorem dX11_way_93 : decode cX11_way 93 = .ok (.iconst 0, 1) := by decide +kernel
theorem dX11_way_94 : decode cX11_way 94 = .ok (.iastore, 1) := by decide +kernel
theorem dX11_way_95 : decode cX11_way 95 = .ok (.aload_n 0, 1) := by decide +kernel
theorem dX11_way_96 : decode cX11_way 96 = .ok (.getfield 60, 3) := by decide +kernel
theorem dX11_way_99 : decode cX11_way 99 = .ok (.iload_n 1, 1) := by decide +kernel
theorem dX11_way_100 : decode cX11_way 100 = .ok (.iconst 1, 1) := by decide +kernel
theorem dX11_way_101 : decode cX11_way 101 = .ok (.iastore, 1) := by decide +kernel
theorem dX11_way_102 : decode cX11_way 102 = .ok (.aload_n 0, 1) := by decide +kernel
theorem dX11_way_103 : decode cX11_way 103 = .ok (.getfield 63, 3) := by decide +kernel
theorem dX11_way_106 : decode cX11_way 106 = .ok (.iconst 0, 1) := by decide +kernel
theorem dX11_way_107 : decode cX11_way 107 = .ok (.iload_n 1, 1) := by decide +kernel
theorem dX11_way_108 : decode cX11_way 108 = .ok (.iastore, 1) := by decide +kernel
theorem dX11_way_109 : decode cX11_way 109 = .ok (.iconst 1, 1) := by decide +kernel
theorem dX11_way_110 : decode cX11_way 110 = .ok (.istore 4, 2) := by decide +kernel
theorem dX11_way_112 : decode cX11_way 112 = .ok (.iconst 0, 1) := by decide +kernel
theorem dX11_way_113 : decode cX11_way 113 = .ok (.istore 5, 2) := by decide +kernel
theorem dX11_way_115 : decode cX11_way 115 = .ok (.iload 5, 2) := by decide +kernel
theorem dX11_way_117 : decode cX11_way 117 = .ok (.iload 4, 2) := by decide +kernel
theorem dX11_way_119 : decode cX11_way 119 = .ok (.if_icmp .ge 155, 3) := by decide +kernel
theorem dX11_way_122 : decode cX11_way 122 = .ok (.aload_n 0, 1) := by decide +kernel
theorem dX11_way_123 : decode cX11_way 123 = .ok (.getfield 63, 3) := by decide +kernel
theorem dX11_way_126 : decode cX11_way 126 = .ok (.iload 5, 2) := by decide +kernel
theorem dX11_way_128 : decode cX11_way 128 = .ok (.iaload, 1) := by decide +kernel
theorem dX11_way_129 : decode cX11_way 129 = .ok (.istore 6, 2) := by decide +kernel
theorem dX11_way_131 : decode cX11_way 131 = .ok (.aload_n 0, 1) := by decide +kernel
theorem dX11_way_132 : decode cX11_way 132 = .ok (.iload 6, 2) := by decide +kernel
theorem dX11_way_134 : decode cX11_way 134 = .ok (.invokevirtual 212, 3) := by decide +kernel
theorem dX11_way_137 : decode cX11_way 137 = .ok (.istore 7, 2) := by decide +kernel
theorem dX11_way_139 : decode cX11_way 139 = .ok (.iconst 0, 1) := by decide +kernel
theorem dX11_way_140 : decode cX11_way 140 = .ok (.istore 8, 2) := by decide +kernel
theorem dX11_way_142 : decode cX11_way 142 = .ok (.iload 8, 2) := by decide +kernel
theorem dX11_way_144 : decode cX11_way 144 = .ok (.aload_n 0, 1) := by decide +kernel
theorem dX11_way_145 : decode cX11_way 145 = .ok (.getfield 7, 3) := by decide +kernel
theorem dX11_way_148 : decode cX11_way 148 = .ok (.bipush 37, 2) := by decide +kernel
theorem dX11_way_150 : decode cX11_way 150 = .ok (.iaload, 1) := by decide +kernel
theorem dX11_way_151 : decode cX11_way 151 = .ok (.if_icmp .ge 117, 3) := by decide +kernel
theorem dX11_way_154 : decode cX11_way 154 = .ok (.iload 6, 2) := by decide +kernel
theorem dX11_way_156 : decode cX11_way 156 = .ok (.iconst 1, 1) := by decide +kernel
theorem dX11_way_157 : decode cX11_way 157 = .ok (.iload 8, 2) := by decide +kernel
theorem dX11_way_159 : decode cX11_way 159 = .ok (.ishl, 1) := by decide +kernel
theorem dX11_way_160 : decode cX11_way 160 = .ok (.ixor, 1) := by decide +kernel
theorem dX11_way_161 : decode cX11_way 161 = .ok (.istore 9, 2) := by decide +kernel
theorem dX11_way_163 : decode cX11_way 163 = .ok (.iload 7, 2) := by decide +kernel
theorem dX11_way_165 : decode cX11_way 165 = .ok (.iload 8, 2) := by decide +kernel
theorem dX11_way_167 : decode cX11_way 167 = .ok (.invokestatic 97, 3) := by decide +kernel
theorem dX11_way_170 : decode cX11_way 170 = .ok (.ifCond .eq 42, 3) := by decide +kernel
theorem dX11_way_173 : decode cX11_way 173 = .ok (.aload_n 0, 1) := by decide +kernel
theorem dX11_way_174 : decode cX11_way 174 = .ok (.getfield 57, 3) := by decide +kernel
theorem dX11_way_177 : decode cX11_way 177 = .ok (.iload 9, 2) := by decide +kernel
theorem dX11_way_179 : decode cX11_way 179 = .ok (.iaload, 1) := by decide +kernel
theorem dX11_way_180 : decode cX11_way 180 = .ok (.iconst (-1), 1) := by decide +kernel
theorem dX11_way_181 : decode cX11_way 181 = .ok (.if_icmp .ne 31, 3) := by decide +kernel
theorem dX11_way_184 : decode cX11_way 184 = .ok (.aload_n 0, 1) := by decide +kernel
theorem dX11_way_185 : decode cX11_way 185 = .ok (.getfield 57, 3) := by decide +kernel
theorem dX11_way_188 : decode cX11_way 188 = .ok (.iload 9, 2) := by decide +kernel
theorem dX11_way_190 : decode cX11_way 190 = .ok (.aload_n 0, 1) := by decide +kernel
theorem dX11_way_191 : decode cX11_way 191 = .ok (.getfield 57, 3) := by decide +kernel
theorem dX11_way_194 : decode cX11_way 194 = .ok (.iload 6, 2) := by decide +kernel
theorem dX11_way_196 : decode cX11_way 196 = .ok (.iaload, 1) := by decide +kernel
theorem dX11_way_197 : decode cX11_way 197 = .ok (.iconst 1, 1) := by decide +kernel
theorem dX11_way_198 : decode cX11_way 198 = .ok (.iadd, 1) := by decide +kernel
theorem dX11_way_199 : decode cX11_way 199 = .ok (.iastore, 1) := by decide +kernel
theorem dX11_way_200 : decode cX11_way 200 = .ok (.aload_n 0, 1) := by decide +kernel
theorem dX11_way_201 : decode cX11_way 201 = .ok (.getfield 63, 3) := by decide +kernel
theorem dX11_way_204 : decode cX11_way 204 = .ok (.iload 4, 2) := by decide +kernel
theorem dX11_way_206 : decode cX11_way 206 = .ok (.iload 9, 2) := by decide +kernel
theorem dX11_way_208 : decode cX11_way 208 = .ok (.iastore, 1) := by decide +kernel
theorem dX11_way_209 : decode cX11_way 209 = .ok (.iinc 4 1, 3) := by decide +kernel
theorem dX11_way_212 : decode cX11_way 212 = .ok (.aload_n 0, 1) := by decide +kernel
theorem dX11_way_213 : decode cX11_way 213 = .ok (.getfield 60, 3) := by decide +kernel
theorem dX11_way_216 : decode cX11_way 216 = .ok (.iload 9, 2) := by decide +kernel
theorem dX11_way_218 : decode cX11_way 218 = .ok (.dup2, 1) := by decide +kernel
theorem dX11_way_219 : decode cX11_way 219 = .ok (.iaload, 1) := by decide +kernel
theorem dX11_way_220 : decode cX11_way 220 = .ok (.iload 7, 2) := by decide +kernel
theorem dX11_way_222 : decode cX11_way 222 = .ok (.iload 8, 2) := by decide +kernel
theorem dX11_way_224 : decode cX11_way 224 = .ok (.invokestatic 97, 3) := by decide +kernel
theorem dX11_way_227 : decode cX11_way 227 = .ok (.ifCond .eq 32, 3) := by decide +kernel
theorem dX11_way_230 : decode cX11_way 230 = .ok (.aload_n 0, 1) := by decide +kernel
theorem dX11_way_231 : decode cX11_way 231 = .ok (.getfield 57, 3) := by decide +kernel
theorem dX11_way_234 : decode cX11_way 234 = .ok (.iload 9, 2) := by decide +kernel
theorem dX11_way_236 : decode cX11_way 236 = .ok (.iaload, 1) := by decide +kernel
theorem dX11_way_237 : decode cX11_way 237 = .ok (.aload_n 0, 1) := by decide +kernel
theorem dX11_way_238 : decode cX11_way 238 = .ok (.getfield 57, 3) := by decide +kernel
theorem dX11_way_241 : decode cX11_way 241 = .ok (.iload 6, 2) := by decide +kernel
theorem dX11_way_243 : decode cX11_way 243 = .ok (.iaload, 1) := by decide +kernel
theorem dX11_way_244 : decode cX11_way 244 = .ok (.iconst 1, 1) := by decide +kernel
theorem dX11_way_245 : decode cX11_way 245 = .ok (.iadd, 1) := by decide +kernel
theorem dX11_way_246 : decode cX11_way 246 = .ok (.if_icmp .ne 13, 3) := by decide +kernel
theorem dX11_way_249 : decode cX11_way 249 = .ok (.aload_n 0, 1) := by decide +kernel
theorem dX11_way_250 : decode cX11_way 250 = .ok (.getfield 60, 3) := by decide +kernel
theorem dX11_way_253 : decode cX11_way 253 = .ok (.iload 6, 2) := by decide +kernel
theorem dX11_way_255 : decode cX11_way 255 = .ok (.iaload, 1) := by decide +kernel
theorem dX11_way_256 : decode cX11_way 256 = .ok (.goto 4, 3) := by decide +kernel
theorem dX11_way_259 : decode cX11_way 259 = .ok (.iconst 0, 1) := by decide +kernel
theorem dX11_way_260 : decode cX11_way 260 = .ok (.iadd, 1) := by decide +kernel
theorem dX11_way_261 : decode cX11_way 261 = .ok (.iastore, 1) := by decide +kernel
theorem dX11_way_262 : decode cX11_way 262 = .ok (.iinc 8 1, 3) := by decide +kernel
theorem dX11_way_265 : decode cX11_way 265 = .ok (.goto (-123), 3) := by decide +kernel
theorem dX11_way_268 : decode cX11_way 268 = .ok (.iinc 5 1, 3) := by decide +kernel
theorem dX11_way_271 : decode cX11_way 271 = .ok (.goto (-156), 3) := by decide +kernel
theorem dX11_way_274 : decode cX11_way 274 = .ok (.iload_n 3, 1) := by decide +kernel
theorem dX11_way_275 : decode cX11_way 275 = .ok (.ifCond .ne 12, 3) := by decide +kernel
theorem dX11_way_278 : decode cX11_way 278 = .ok (.aload_n 0, 1) := by decide +kernel
theorem dX11_way_279 : decode cX11_way 279 = .ok (.getfield 57, 3) := by decide +kernel
theorem dX11_way_282 : decode cX11_way 282 = .ok (.iload_n 2, 1) := by decide +kernel
theorem dX11_way_283 : decode cX11_way 283 = .ok (.iaload, 1) := by decide +kernel
theorem dX11_way_284 : decode cX11_way 284 = .ok (.goto 9, 3) := by decide +kernel
theorem dX11_way_287 : decode cX11_way 287 = .ok (.aload_n 0, 1) := by decide +kernel
theorem dX11_way_288 : decode cX11_way 288 = .ok (.getfield 60, 3) := by decide +kernel
theorem dX11_way_291 : decode cX11_way 291 = .ok (.iload_n 2, 1) := by decide +kernel
theorem dX11_way_292 : decode cX11_way 292 = .ok (.iaload, 1) := by decide +kernel
theorem dX11_way_293 : decode cX11_way 293 = .ok (.ireturn, 1) := by decide +kernel
theorem dX11_isEven_0 : decode cX11_isEven 0 = .ok (.iconst 0, 1) := by decide +kernel
theorem dX11_isEven_1 : decode cX11_isEven 1 = .ok (.istore_n 2, 1) := by decide +kernel
theorem dX11_isEven_2 : decode cX11_isEven 2 = .ok (.iload_n 2, 1) := by decide +kernel
theorem dX11_isEven_3 : decode cX11_isEven 3 = .ok (.aload_n 0, 1) := by decide +kernel
theorem dX11_isEven_4 : decode cX11_isEven 4 = .ok (.invokevirtual 109, 3) := by decide +kernel
theorem dX11_isEven_7 : decode cX11_isEven 7 = .ok (.if_icmp .gt 52, 3) := by decide +kernel
theorem dX11_isEven_10 : decode cX11_isEven 10 = .ok (.aload_n 0, 1) := by decide +kernel
theorem dX11_isEven_11 : decode cX11_isEven 11 = .ok (.iload_n 2, 1) := by decide +kernel
theorem dX11_isEven_12 : decode cX11_isEven 12 = .ok (.invokevirtual 199, 3) := by decide +kernel
theorem dX11_isEven_15 : decode cX11_isEven 15 = .ok (.ifCond .eq 38, 3) := by decide +kernel
theorem dX11_isEven_18 : decode cX11_isEven 18 = .ok (.aload_n 0, 1) := by decide +kernel
theorem dX11_isEven_19 : decode cX11_isEven 19 = .ok (.getfield 29, 3) := by decide +kernel
theorem dX11_isEven_22 : decode cX11_isEven 22 = .ok (.iload_n 1, 1) := by decide +kernel
theorem dX11_isEven_23 : decode cX11_isEven 23 = .ok (.iaload, 1) := by decide +kernel
theorem dX11_isEven_24 : decode cX11_isEven 24 = .ok (.aload_n 0, 1) := by decide +kernel
theorem dX11_isEven_25 : decode cX11_isEven 25 = .ok (.getfield 29, 3) := by decide +kernel
theorem dX11_isEven_28 : decode cX11_isEven 28 = .ok (.iload_n 2, 1) := by decide +kernel
theorem dX11_isEven_29 : decode cX11_isEven 29 = .ok (.iaload, 1) := by decide +kernel
theorem dX11_isEven_30 : decode cX11_isEven 30 = .ok (.iadd, 1) := by decide +kernel
theorem dX11_isEven_31 : decode cX11_isEven 31 = .ok (.aload_n 0, 1) := by decide +kernel
theorem dX11_isEven_32 : decode cX11_isEven 32 = .ok (.getfield 29, 3) := by decide +kernel
theorem dX11_isEven_35 : decode cX11_isEven 35 = .ok (.iload_n 1, 1) := by decide +kernel
theorem dX11_isEven_36 : decode cX11_isEven 36 = .ok (.iload_n 2, 1) := by decide +kernel
theorem dX11_isEven_37 : decode cX11_isEven 37 = .ok (.ior, 1) := by decide +kernel
theorem dX11_isEven_38 : decode cX11_isEven 38 = .ok (.iaload, 1) := by decide +kernel
theorem dX11_isEven_39 : decode cX11_isEven 39 = .ok (.aload_n 0, 1) := by decide +kernel
theorem dX11_isEven_40 : decode cX11_isEven 40 = .ok (.getfield 29, 3) := by decide +kernel
theorem dX11_isEven_43 : decode cX11_isEven 43 = .ok (.iload_n 1, 1) := by decide +kernel
theorem dX11_isEven_44 : decode cX11_isEven 44 = .ok (.iload_n 2, 1) := by decide +kernel
theorem dX11_isEven_45 : decode cX11_isEven 45 = .ok (.iand, 1) := by decide +kernel
theorem dX11_isEven_46 : decode cX11_isEven 46 = .ok (.iaload, 1) := by decide +kernel
theorem dX11_isEven_47 : decode cX11_isEven 47 = .ok (.iadd, 1) := by decide +kernel
theorem dX11_isEven_48 : decode cX11_isEven 48 = .ok (.if_icmp .eq 5, 3) := by decide +kernel
theorem dX11_isEven_51 : decode cX11_isEven 51 = .ok (.iconst 0, 1) := by decide +kernel
theorem dX11_isEven_52 : decode cX11_isEven 52 = .ok (.ireturn, 1) := by decide +kernel
theorem dX11_isEven_53 : decode cX11_isEven 53 = .ok (.iinc 2 1, 3) := by decide +kernel
theorem dX11_isEven_56 : decode cX11_isEven 56 = .ok (.goto (-54), 3) := by decide +kernel
theorem dX11_isEven_59 : decode cX11_isEven 59 = .ok (.iconst 1, 1) := by decide +kernel
theorem dX11_isEven_60 : decode cX11_isEven 60 = .ok (.ireturn, 1) := by decide +kernel
theorem dX11_isChain_0 : decode cX11_isChain 0 = .ok (.aload_n 0, 1) := by decide +kernel
theorem dX11_isChain_1 : decode cX11_isChain 1 = .ok (.invokevirtual 187, 3) := by decide +kernel
theorem dX11_isChain_4 : decode cX11_isChain 4 = .ok (.aload_n 0, 1) := by decide +kernel
theorem dX11_isChain_5 : decode cX11_isChain 5 = .ok (.getfield 29, 3) := by decide +kernel
theorem dX11_isChain_8 : decode cX11_isChain 8 = .ok (.aload_n 0, 1) := by decide +kernel
theorem dX11_isChain_9 : decode cX11_isChain 9 = .ok (.invokevirtual 109, 3) := by decide +kernel
theorem dX11_isChain_12 : decode cX11_isChain 12 = .ok (.iaload, 1) := by decide +kernel
theorem dX11_isChain_13 : decode cX11_isChain 13 = .ok (.istore_n 1, 1) := by decide +kernel
theorem dX11_isChain_14 : decode cX11_isChain 14 = .ok (.iload_n 1, 1) := by decide +kernel
theorem dX11_isChain_15 : decode cX11_isChain 15 = .ok (.istore_n 2, 1) := by decide +kernel
theorem dX11_isChain_16 : decode cX11_isChain 16 = .ok (.iload_n 2, 1) := by decide +kernel
theorem dX11_isChain_17 : decode cX11_isChain 17 = .ok (.ifCond .lt 150, 3) := by decide +kernel
theorem dX11_isChain_20 : decode cX11_isChain 20 = .ok (.iconst 0, 1) := by decide +kernel
theorem dX11_isChain_21 : decode cX11_isChain 21 = .ok (.istore_n 3, 1) := by decide +kernel
theorem dX11_isChain_22 : decode cX11_isChain 22 = .ok (.iload_n 3, 1) := by decide +kernel
theorem dX11_isChain_23 : decode cX11_isChain 23 = .ok (.aload_n 0, 1) := by decide +kernel
theorem dX11_isChain_24 : decode cX11_isChain 24 = .ok (.invokevirtual 109, 3) := by decide +kernel
theorem dX11_isChain_27 : decode cX11_isChain 27 = .ok (.if_icmp .gt 134, 3) := by decide +kernel
theorem dX11_isChain_30 : decode cX11_isChain 30 = .ok (.aload_n 0, 1) := by decide +kernel
theorem dX11_isChain_31 : decode cX11_isChain 31 = .ok (.getfield 29, 3) := by decide +kernel
theorem dX11_isChain_34 : decode cX11_isChain 34 = .ok (.iload_n 3, 1) := by decide +kernel
theorem dX11_isChain_35 : decode cX11_isChain 35 = .ok (.iaload, 1) := by decide +kernel
theorem dX11_isChain_36 : decode cX11_isChain 36 = .ok (.iload_n 2, 1) := by decide +kernel
theorem dX11_isChain_37 : decode cX11_isChain 37 = .ok (.if_icmp .ne 118, 3) := by decide +kernel
theorem dX11_isChain_40 : decode cX11_isChain 40 = .ok (.aload_n 0, 1) := by decide +kernel
theorem dX11_isChain_41 : decode cX11_isChain 41 = .ok (.iload_n 3, 1) := by decide +kernel
theorem dX11_isChain_42 : decode cX11_isChain 42 = .ok (.invokevirtual 199, 3) := by decide +kernel
theorem dX11_isChain_45 : decode cX11_isChain 45 = .ok (.ifCond .eq 110, 3) := by decide +kernel
theorem dX11_isChain_48 : decode cX11_isChain 48 = .ok (.iload_n 2, 1) := by decide +kernel
theorem dX11_isChain_49 : decode cX11_isChain 49 = .ok (.iload_n 1, 1) := by decide +kernel
theorem dX11_isChain_50 : decode cX11_isChain 50 = .ok (.if_icmp .ne 7, 3) := by decide +kernel
theorem dX11_isChain_53 : decode cX11_isChain 53 = .ok (.iconst 1, 1) := by decide +kernel
theorem dX11_isChain_54 : decode cX11_isChain 54 = .ok (.goto 4, 3) := by decide +kernel
theorem dX11_isChain_57 : decode cX11_isChain 57 = .ok (.iconst 0, 1) := by decide +kernel
theorem dX11_isChain_58 : decode cX11_isChain 58 = .ok (.istore 4, 2) := by decide +kernel
theorem dX11_isChain_60 : decode cX11_isChain 60 = .ok (.iconst 0, 1) := by decide +kernel
theorem dX11_isChain_61 : decode cX11_isChain 61 = .ok (.istore 5, 2) := by decide +kernel
theorem dX11_isChain_63 : decode cX11_isChain 63 = .ok (.iload 5, 2) := by decide +kernel
theorem dX11_isChain_65 : decode cX11_isChain 65 = .ok (.aload_n 0, 1) := by decide +kernel
theorem dX11_isChain_66 : decode cX11_isChain 66 = .ok (.invokevirtual 109, 3) := by decide +kernel
theorem dX11_isChain_69 : decode cX11_isChain 69 = .ok (.if_icmp .gt 62, 3) := by decide +kernel
theorem dX11_isChain_72 : decode cX11_isChain 72 = .ok (.iload 4, 2) := by decide +kernel
theorem dX11_isChain_74 : decode cX11_isChain 74 = .ok (.ifCond .ne 57, 3) := by decide +kernel
theorem dX11_isChain_77 : decode cX11_isChain 77 = .ok (.iload_n 3, 1) := by decide +kernel
theorem dX11_isChain_78 : decode cX11_isChain 78 = .ok (.iload 5, 2) := by decide +kernel
theorem dX11_isChain_80 : decode cX11_isChain 80 = .ok (.iconst (-1), 1) := by decide +kernel
theorem dX11_isChain_81 : decode cX11_isChain 81 = .ok (.ixor, 1) := by decide +kernel
theorem dX11_isChain_82 : decode cX11_isChain 82 = .ok (.iand, 1) := by decide +kernel
theorem dX11_isChain_83 : decode cX11_isChain 83 = .ok (.ifCond .ne 39, 3) := by decide +kernel
theorem dX11_isChain_86 : decode cX11_isChain 86 = .ok (.aload_n 0, 1) := by decide +kernel
theorem dX11_isChain_87 : decode cX11_isChain 87 = .ok (.getfield 29, 3) := by decide +kernel
theorem dX11_isChain_90 : decode cX11_isChain 90 = .ok (.iload 5, 2) := by decide +kernel
theorem dX11_isChain_92 : decode cX11_isChain 92 = .ok (.iaload, 1) := by decide +kernel
theorem dX11_isChain_93 : decode cX11_isChain 93 = .ok (.iload_n 2, 1) := by decide +kernel
theorem dX11_isChain_94 : decode cX11_isChain 94 = .ok (.iconst 1, 1) := by decide +kernel
theorem dX11_isChain_95 : decode cX11_isChain 95 = .ok (.iadd, 1) := by decide +kernel
theorem dX11_isChain_96 : decode cX11_isChain 96 = .ok (.if_icmp .ne 26, 3) := by decide +kernel
theorem dX11_isChain_99 : decode cX11_isChain 99 = .ok (.aload_n 0, 1) := by decide +kernel
theorem dX11_isChain_100 : decode cX11_isChain 100 = .ok (.iload 5, 2) := by decide +kernel
theorem dX11_isChain_102 : decode cX11_isChain 102 = .ok (.invokevirtual 199, 3) := by decide +kernel
theorem dX11_isChain_105 : decode cX11_isChain 105 = .ok (.ifCond .eq 17, 3) := by decide +kernel
theorem dX11_isChain_108 : decode cX11_isChain 108 = .ok (.aload_n 0, 1) := by decide +kernel
theorem dX11_isChain_109 : decode cX11_isChain 109 = .ok (.getfield 66, 3) := by decide +kernel
theorem dX11_isChain_112 : decode cX11_isChain 112 = .ok (.iload 5, 2) := by decide +kernel
theorem dX11_isChain_114 : decode cX11_isChain 114 = .ok (.baload, 1) := by decide +kernel
theorem dX11_isChain_115 : decode cX11_isChain 115 = .ok (.ifCond .eq 7, 3) := by decide +kernel
theorem dX11_isChain_118 : decode cX11_isChain 118 = .ok (.iconst 1, 1) := by decide +kernel
theorem dX11_isChain_119 : decode cX11_isChain 119 = .ok (.goto 4, 3) := by decide +kernel
theorem dX11_isChain_122 : decode cX11_isChain 122 = .ok (.iconst 0, 1) := by decide +kernel
theorem dX11_isChain_123 : decode cX11_isChain 123 = .ok (.istore 4, 2) := by decide +kernel
theorem dX11_isChain_125 : decode cX11_isChain 125 = .ok (.iinc 5 1, 3) := by decide +kernel
theorem dX11_isChain_128 : decode cX11_isChain 128 = .ok (.goto (-65), 3) := by decide +kernel
theorem dX11_isChain_131 : decode cX11_isChain 131 = .ok (.aload_n 0, 1) := by decide +kernel
theorem dX11_isChain_132 : decode cX11_isChain 132 = .ok (.getfield 66, 3) := by decide +kernel
theorem dX11_isChain_135 : decode cX11_isChain 135 = .ok (.iload_n 3, 1) := by decide +kernel
theorem dX11_isChain_136 : decode cX11_isChain 136 = .ok (.iload 4, 2) := by decide +kernel
theorem dX11_isChain_138 : decode cX11_isChain 138 = .ok (.ifCond .eq 15, 3) := by decide +kernel
theorem dX11_isChain_141 : decode cX11_isChain 141 = .ok (.aload_n 0, 1) := by decide +kernel
theorem dX11_isChain_142 : decode cX11_isChain 142 = .ok (.iload_n 3, 1) := by decide +kernel
theorem dX11_isChain_143 : decode cX11_isChain 143 = .ok (.invokevirtual 215, 3) := by decide +kernel
theorem dX11_isChain_146 : decode cX11_isChain 146 = .ok (.ifCond .eq 7, 3) := by decide +kernel
theorem dX11_isChain_149 : decode cX11_isChain 149 = .ok (.iconst 1, 1) := by decide +kernel
theorem dX11_isChain_150 : decode cX11_isChain 150 = .ok (.goto 4, 3) := by decide +kernel
theorem dX11_isChain_153 : decode cX11_isChain 153 = .ok (.iconst 0, 1) := by decide +kernel
theorem dX11_isChain_154 : decode cX11_isChain 154 = .ok (.bastore, 1) := by decide +kernel
theorem dX11_isChain_155 : decode cX11_isChain 155 = .ok (.iinc 3 1, 3) := by decide +kernel
theorem dX11_isChain_158 : decode cX11_isChain 158 = .ok (.goto (-136), 3) := by decide +kernel
theorem dX11_isChain_161 : decode cX11_isChain 161 = .ok (.iinc 2 (-1), 3) := by decide +kernel
theorem dX11_isChain_164 : decode cX11_isChain 164 = .ok (.goto (-148), 3) := by decide +kernel
theorem dX11_isChain_167 : decode cX11_isChain 167 = .ok (.aload_n 0, 1) := by decide +kernel
theorem dX11_isChain_168 : decode cX11_isChain 168 = .ok (.getfield 70, 3) := by decide +kernel
theorem dX11_isChain_171 : decode cX11_isChain 171 = .ok (.iconst 0, 1) := by decide +kernel
theorem dX11_isChain_172 : decode cX11_isChain 172 = .ok (.iconst 0, 1) := by decide +kernel
theorem dX11_isChain_173 : decode cX11_isChain 173 = .ok (.iastore, 1) := by decide +kernel
theorem dX11_isChain_174 : decode cX11_isChain 174 = .ok (.iconst 1, 1) := by decide +kernel
theorem dX11_isChain_175 : decode cX11_isChain 175 = .ok (.istore_n 2, 1) := by decide +kernel
theorem dX11_isChain_176 : decode cX11_isChain 176 = .ok (.iload_n 2, 1) := by decide +kernel
theorem dX11_isChain_177 : decode cX11_isChain 177 = .ok (.iload_n 1, 1) := by decide +kernel
theorem dX11_isChain_178 : decode cX11_isChain 178 = .ok (.if_icmp .gt 75, 3) := by decide +kernel
theorem dX11_isChain_181 : decode cX11_isChain 181 = .ok (.aload_n 0, 1) := by decide +kernel
theorem dX11_isChain_182 : decode cX11_isChain 182 = .ok (.getfield 66, 3) := by decide +kernel
theorem dX11_isChain_185 : decode cX11_isChain 185 = .ok (.iconst 0, 1) := by decide +kernel
theorem dX11_isChain_186 : decode cX11_isChain 186 = .ok (.baload, 1) := by decide +kernel
theorem dX11_isChain_187 : decode cX11_isChain 187 = .ok (.ifCond .eq 66, 3) := by decide +kernel
theorem dX11_isChain_190 : decode cX11_isChain 190 = .ok (.iconst 0, 1) := by decide +kernel
theorem dX11_isChain_191 : decode cX11_isChain 191 = .ok (.istore_n 3, 1) := by decide +kernel
theorem dX11_isChain_192 : decode cX11_isChain 192 = .ok (.aload_n 0, 1) := by decide +kernel
theorem dX11_isChain_193 : decode cX11_isChain 193 = .ok (.getfield 70, 3) := by decide +kernel
theorem dX11_isChain_196 : decode cX11_isChain 196 = .ok (.iload_n 2, 1) := by decide +kernel
theorem dX11_isChain_197 : decode cX11_isChain 197 = .ok (.iconst 1, 1) := by decide +kernel
theorem dX11_isChain_198 : decode cX11_isChain 198 = .ok (.isub, 1) := by decide +kernel
theorem dX11_isChain_199 : decode cX11_isChain 199 = .ok (.iaload, 1) := by decide +kernel
theorem dX11_isChain_200 : decode cX11_isChain 200 = .ok (.iload_n 3, 1) := by decide +kernel
theorem dX11_isChain_201 : decode cX11_isChain 201 = .ok (.iconst (-1), 1) := by decide +kernel
theorem dX11_isChain_202 : decode cX11_isChain 202 = .ok (.ixor, 1) := by decide +kernel
theorem dX11_isChain_203 : decode cX11_isChain 203 = .ok (.iand, 1) := by decide +kernel
theorem dX11_isChain_204 : decode cX11_isChain 204 = .ok (.ifCond .ne 30, 3) := by decide +kernel
theorem dX11_isChain_207 : decode cX11_isChain 207 = .ok (.aload_n 0, 1) := by decide +kernel
theorem dX11_isChain_208 : decode cX11_isChain 208 = .ok (.getfield 29, 3) := by decide +kernel
theorem dX11_isChain_211 : decode cX11_isChain 211 = .ok (.iload_n 3, 1) := by decide +kernel
theorem dX11_isChain_212 : decode cX11_isChain 212 = .ok (.iaload, 1) := by decide +kernel
theorem dX11_isChain_213 : decode cX11_isChain 213 = .ok (.iload_n 2, 1) := by decide +kernel
theorem dX11_isChain_214 : decode cX11_isChain 214 = .ok (.if_icmp .ne 20, 3) := by decide +kernel
theorem dX11_isChain_217 : decode cX11_isChain 217 = .ok (.aload_n 0, 1) := by decide +kernel
theorem dX11_isChain_218 : decode cX11_isChain 218 = .ok (.iload_n 3, 1) := by decide +kernel
theorem dX11_isChain_219 : decode cX11_isChain 219 = .ok (.invokevirtual 199, 3) := by decide +kernel
theorem dX11_isChain_222 : decode cX11_isChain 222 = .ok (.ifCond .eq 12, 3) := by decide +kernel
theorem dX11_isChain_225 : decode cX11_isChain 225 = .ok (.aload_n 0, 1) := by decide +kernel
theorem dX11_isChain_226 : decode cX11_isChain 226 = .ok (.getfield 66, 3) := by decide +kernel
theorem dX11_isChain_229 : decode cX11_isChain 229 = .ok (.iload_n 3, 1) := by decide +kernel
theorem dX11_isChain_230 : decode cX11_isChain 230 = .ok (.baload, 1) := by decide +kernel
theorem dX11_isChain_231 : decode cX11_isChain 231 = .ok (.ifCond .ne 9, 3) := by decide +kernel
theorem dX11_isChain_234 : decode cX11_isChain 234 = .ok (.iinc 3 1, 3) := by decide +kernel
theorem dX11_isChain_237 : decode cX11_isChain 237 = .ok (.goto (-45), 3) := by decide +kernel
theorem dX11_isChain_240 : decode cX11_isChain 240 = .ok (.aload_n 0, 1) := by decide +kernel
theorem dX11_isChain_241 : decode cX11_isChain 241 = .ok (.getfield 70, 3) := by decide +kernel
theorem dX11_isChain_244 : decode cX11_isChain 244 = .ok (.iload_n 2, 1) := by decide +kernel
theorem dX11_isChain_245 : decode cX11_isChain 245 = .ok (.iload_n 3, 1) := by decide +kernel
theorem dX11_isChain_246 : decode cX11_isChain 246 = .ok (.iastore, 1) := by decide +kernel
theorem dX11_isChain_247 : decode cX11_isChain 247 = .ok (.iinc 2 1, 3) := by decide +kernel
theorem dX11_isChain_250 : decode cX11_isChain 250 = .ok (.goto (-74), 3) := by decide +kernel
theorem dX11_isChain_253 : decode cX11_isChain 253 = .ok (.aload_n 0, 1) := by decide +kernel
theorem dX11_isChain_254 : decode cX11_isChain 254 = .ok (.getfield 66, 3) := by decide +kernel
theorem dX11_isChain_257 : decode cX11_isChain 257 = .ok (.iconst 0, 1) := by decide +kernel
theorem dX11_isChain_258 : decode cX11_isChain 258 = .ok (.baload, 1) := by decide +kernel
theorem dX11_isChain_259 : decode cX11_isChain 259 = .ok (.ireturn, 1) := by decide +kernel
theorem dX11_chain_0 : decode cX11_chain 0 = .ok (.iload_n 1, 1) := by decide +kernel
theorem dX11_chain_1 : decode cX11_chain 1 = .ok (.ifCond .lt 12, 3) := by decide +kernel
theorem dX11_chain_4 : decode cX11_chain 4 = .ok (.iload_n 2, 1) := by decide +kernel
theorem dX11_chain_5 : decode cX11_chain 5 = .ok (.iconst 0, 1) := by decide +kernel
theorem dX11_chain_6 : decode cX11_chain 6 = .ok (.iconst 1, 1) := by decide +kernel
theorem dX11_chain_7 : decode cX11_chain 7 = .ok (.invokestatic 113, 3) := by decide +kernel
theorem dX11_chain_10 : decode cX11_chain 10 = .ok (.ifCond .ne 10, 3) := by decide +kernel
theorem dX11_chain_13 : decode cX11_chain 13 = .ok (.aload_n 0, 1) := by decide +kernel
theorem dX11_chain_14 : decode cX11_chain 14 = .ok (.bipush (-2), 2) := by decide +kernel
theorem dX11_chain_16 : decode cX11_chain 16 = .ok (.invokevirtual 89, 3) := by decide +kernel
theorem dX11_chain_19 : decode cX11_chain 19 = .ok (.ireturn, 1) := by decide +kernel
theorem dX11_chain_20 : decode cX11_chain 20 = .ok (.aload_n 0, 1) := by decide +kernel
theorem dX11_chain_21 : decode cX11_chain 21 = .ok (.invokevirtual 218, 3) := by decide +kernel
theorem dX11_chain_24 : decode cX11_chain 24 = .ok (.ifCond .ne 10, 3) := by decide +kernel
theorem dX11_chain_27 : decode cX11_chain 27 = .ok (.aload_n 0, 1) := by decide +kernel
theorem dX11_chain_28 : decode cX11_chain 28 = .ok (.bipush (-3), 2) := by decide +kernel
theorem dX11_chain_30 : decode cX11_chain 30 = .ok (.invokevirtual 89, 3) := by decide +kernel
theorem dX11_chain_33 : decode cX11_chain 33 = .ok (.ireturn, 1) := by decide +kernel
theorem dX11_chain_34 : decode cX11_chain 34 = .ok (.aload_n 0, 1) := by decide +kernel
theorem dX11_chain_35 : decode cX11_chain 35 = .ok (.getfield 29, 3) := by decide +kernel
theorem dX11_chain_38 : decode cX11_chain 38 = .ok (.aload_n 0, 1) := by decide +kernel
theorem dX11_chain_39 : decode cX11_chain 39 = .ok (.invokevirtual 109, 3) := by decide +kernel
theorem dX11_chain_42 : decode cX11_chain 42 = .ok (.iaload, 1) := by decide +kernel
theorem dX11_chain_43 : decode cX11_chain 43 = .ok (.istore_n 3, 1) := by decide +kernel
theorem dX11_chain_44 : decode cX11_chain 44 = .ok (.iload_n 1, 1) := by decide +kernel
theorem dX11_chain_45 : decode cX11_chain 45 = .ok (.ifCond .eq 8, 3) := by decide +kernel
theorem dX11_chain_48 : decode cX11_chain 48 = .ok (.iload_n 1, 1) := by decide +kernel
theorem dX11_chain_49 : decode cX11_chain 49 = .ok (.iload_n 3, 1) := by decide +kernel
theorem dX11_chain_50 : decode cX11_chain 50 = .ok (.if_icmp .le 14, 3) := by decide +kernel
theorem dX11_chain_53 : decode cX11_chain 53 = .ok (.iload_n 1, 1) := by decide +kernel
theorem dX11_chain_54 : decode cX11_chain 54 = .ok (.ifCond .ne 7, 3) := by decide +kernel
theorem dX11_chain_57 : decode cX11_chain 57 = .ok (.iload_n 3, 1) := by decide +kernel
theorem dX11_chain_58 : decode cX11_chain 58 = .ok (.goto 5, 3) := by decide +kernel
theorem dX11_chain_61 : decode cX11_chain 61 = .ok (.bipush (-5), 2) := by decide +kernel
theorem dX11_chain_63 : decode cX11_chain 63 = .ok (.ireturn, 1) := by decide +kernel
theorem dX11_chain_64 : decode cX11_chain 64 = .ok (.iload_n 2, 1) := by decide +kernel
theorem dX11_chain_65 : decode cX11_chain 65 = .ok (.ifCond .ne 12, 3) := by decide +kernel
theorem dX11_chain_68 : decode cX11_chain 68 = .ok (.aload_n 0, 1) := by decide +kernel
theorem dX11_chain_69 : decode cX11_chain 69 = .ok (.getfield 70, 3) := by decide +kernel
theorem dX11_chain_72 : decode cX11_chain 72 = .ok (.iload_n 1, 1) := by decide +kernel
theorem dX11_chain_73 : decode cX11_chain 73 = .ok (.iaload, 1) := by decide +kernel
theorem dX11_chain_74 : decode cX11_chain 74 = .ok (.goto 24, 3) := by decide +kernel
theorem dX11_chain_77 : decode cX11_chain 77 = .ok (.aload_n 0, 1) := by decide +kernel
theorem dX11_chain_78 : decode cX11_chain 78 = .ok (.getfield 70, 3) := by decide +kernel
theorem dX11_chain_81 : decode cX11_chain 81 = .ok (.iload_n 1, 1) := by decide +kernel
theorem dX11_chain_82 : decode cX11_chain 82 = .ok (.iaload, 1) := by decide +kernel
theorem dX11_chain_83 : decode cX11_chain 83 = .ok (.invokestatic 123, 3) := by decide +kernel
theorem dX11_chain_86 : decode cX11_chain 86 = .ok (.aload_n 0, 1) := by decide +kernel
theorem dX11_chain_87 : decode cX11_chain 87 = .ok (.getfield 70, 3) := by decide +kernel
theorem dX11_chain_90 : decode cX11_chain 90 = .ok (.iload_n 1, 1) := by decide +kernel
theorem dX11_chain_91 : decode cX11_chain 91 = .ok (.iconst 1, 1) := by decide +kernel
theorem dX11_chain_92 : decode cX11_chain 92 = .ok (.isub, 1) := by decide +kernel
theorem dX11_chain_93 : decode cX11_chain 93 = .ok (.iaload, 1) := by decide +kernel
theorem dX11_chain_94 : decode cX11_chain 94 = .ok (.invokestatic 123, 3) := by decide +kernel
theorem dX11_chain_97 : decode cX11_chain 97 = .ok (.isub, 1) := by decide +kernel
theorem dX11_chain_98 : decode cX11_chain 98 = .ok (.ireturn, 1) := by decide +kernel
theorem dX11_even_0 : decode cX11_even 0 = .ok (.iload_n 1, 1) := by decide +kernel
theorem dX11_even_1 : decode cX11_even 1 = .ok (.iconst 0, 1) := by decide +kernel
theorem dX11_even_2 : decode cX11_even 2 = .ok (.iconst 4, 1) := by decide +kernel
theorem dX11_even_3 : decode cX11_even 3 = .ok (.invokestatic 113, 3) := by decide +kernel
theorem dX11_even_6 : decode cX11_even 6 = .ok (.ifCond .ne 10, 3) := by decide +kernel
theorem dX11_even_9 : decode cX11_even 9 = .ok (.aload_n 0, 1) := by decide +kernel
theorem dX11_even_10 : decode cX11_even 10 = .ok (.bipush (-2), 2) := by decide +kernel
theorem dX11_even_12 : decode cX11_even 12 = .ok (.invokevirtual 89, 3) := by decide +kernel
theorem dX11_even_15 : decode cX11_even 15 = .ok (.ireturn, 1) := by decide +kernel
theorem dX11_even_16 : decode cX11_even 16 = .ok (.aload_n 0, 1) := by decide +kernel
theorem dX11_even_17 : decode cX11_even 17 = .ok (.invokevirtual 187, 3) := by decide +kernel
theorem dX11_even_20 : decode cX11_even 20 = .ok (.iconst 0, 1) := by decide +kernel
theorem dX11_even_21 : decode cX11_even 21 = .ok (.istore_n 2, 1) := by decide +kernel
theorem dX11_even_22 : decode cX11_even 22 = .ok (.iconst 0, 1) := by decide +kernel
theorem dX11_even_23 : decode cX11_even 23 = .ok (.istore_n 3, 1) := by decide +kernel
theorem dX11_even_24 : decode cX11_even 24 = .ok (.iload_n 3, 1) := by decide +kernel
theorem dX11_even_25 : decode cX11_even 25 = .ok (.aload_n 0, 1) := by decide +kernel
theorem dX11_even_26 : decode cX11_even 26 = .ok (.invokevirtual 109, 3) := by decide +kernel
theorem dX11_even_29 : decode cX11_even 29 = .ok (.if_icmp .gt 43, 3) := by decide +kernel
theorem dX11_even_32 : decode cX11_even 32 = .ok (.iload_n 2, 1) := by decide +kernel
theorem dX11_even_33 : decode cX11_even 33 = .ok (.aload_n 0, 1) := by decide +kernel
theorem dX11_even_34 : decode cX11_even 34 = .ok (.getfield 29, 3) := by decide +kernel
theorem dX11_even_37 : decode cX11_even 37 = .ok (.iload_n 3, 1) := by decide +kernel
theorem dX11_even_38 : decode cX11_even 38 = .ok (.iaload, 1) := by decide +kernel
theorem dX11_even_39 : decode cX11_even 39 = .ok (.iload_n 1, 1) := by decide +kernel
theorem dX11_even_40 : decode cX11_even 40 = .ok (.if_icmp .ne 23, 3) := by decide +kernel
theorem dX11_even_43 : decode cX11_even 43 = .ok (.aload_n 0, 1) := by decide +kernel
theorem dX11_even_44 : decode cX11_even 44 = .ok (.iload_n 3, 1) := by decide +kernel
theorem dX11_even_45 : decode cX11_even 45 = .ok (.invokevirtual 199, 3) := by decide +kernel
theorem dX11_even_48 : decode cX11_even 48 = .ok (.ifCond .eq 15, 3) := by decide +kernel
theorem dX11_even_51 : decode cX11_even 51 = .ok (.aload_n 0, 1) := by decide +kernel
theorem dX11_even_52 : decode cX11_even 52 = .ok (.iload_n 3, 1) := by decide +kernel
theorem dX11_even_53 : decode cX11_even 53 = .ok (.invokevirtual 215, 3) := by decide +kernel
theorem dX11_even_56 : decode cX11_even 56 = .ok (.ifCond .eq 7, 3) := by decide +kernel
theorem dX11_even_59 : decode cX11_even 59 = .ok (.iconst 1, 1) := by decide +kernel
theorem dX11_even_60 : decode cX11_even 60 = .ok (.goto 4, 3) := by decide +kernel
theorem dX11_even_63 : decode cX11_even 63 = .ok (.iconst 0, 1) := by decide +kernel
theorem dX11_even_64 : decode cX11_even 64 = .ok (.iadd, 1) := by decide +kernel
theorem dX11_even_65 : decode cX11_even 65 = .ok (.istore_n 2, 1) := by decide +kernel
theorem dX11_even_66 : decode cX11_even 66 = .ok (.iinc 3 1, 3) := by decide +kernel
theorem dX11_even_69 : decode cX11_even 69 = .ok (.goto (-45), 3) := by decide +kernel
theorem dX11_even_72 : decode cX11_even 72 = .ok (.iload_n 2, 1) := by decide +kernel
theorem dX11_even_73 : decode cX11_even 73 = .ok (.ireturn, 1) := by decide +kernel
theorem dX11_placesOver_0 : decode cX11_placesOver 0 = .ok (.iconst 1, 1) := by decide +kernel
theorem dX11_placesOver_1 : decode cX11_placesOver 1 = .ok (.istore_n 2, 1) := by decide +kernel
theorem dX11_placesOver_2 : decode cX11_placesOver 2 = .ok (.iconst 0, 1) := by decide +kernel
theorem dX11_placesOver_3 : decode cX11_placesOver 3 = .ok (.istore_n 3, 1) := by decide +kernel
theorem dX11_placesOver_4 : decode cX11_placesOver 4 = .ok (.iload_n 3, 1) := by decide +kernel
theorem dX11_placesOver_5 : decode cX11_placesOver 5 = .ok (.aload_n 0, 1) := by decide +kernel
theorem dX11_placesOver_6 : decode cX11_placesOver 6 = .ok (.getfield 7, 3) := by decide +kernel
theorem dX11_placesOver_9 : decode cX11_placesOver 9 = .ok (.bipush 36, 2) := by decide +kernel
theorem dX11_placesOver_11 : decode cX11_placesOver 11 = .ok (.iaload, 1) := by decide +kernel
theorem dX11_placesOver_12 : decode cX11_placesOver 12 = .ok (.if_icmp .ge 13, 3) := by decide +kernel
theorem dX11_placesOver_15 : decode cX11_placesOver 15 = .ok (.iload_n 2, 1) := by decide +kernel
theorem dX11_placesOver_16 : decode cX11_placesOver 16 = .ok (.iload_n 1, 1) := by decide +kernel
theorem dX11_placesOver_17 : decode cX11_placesOver 17 = .ok (.imul, 1) := by decide +kernel
theorem dX11_placesOver_18 : decode cX11_placesOver 18 = .ok (.istore_n 2, 1) := by decide +kernel
theorem dX11_placesOver_19 : decode cX11_placesOver 19 = .ok (.iinc 3 1, 3) := by decide +kernel
theorem dX11_placesOver_22 : decode cX11_placesOver 22 = .ok (.goto (-18), 3) := by decide +kernel
theorem dX11_placesOver_25 : decode cX11_placesOver 25 = .ok (.iconst 0, 1) := by decide +kernel
theorem dX11_placesOver_26 : decode cX11_placesOver 26 = .ok (.istore_n 3, 1) := by decide +kernel
theorem dX11_placesOver_27 : decode cX11_placesOver 27 = .ok (.iconst 0, 1) := by decide +kernel
theorem dX11_placesOver_28 : decode cX11_placesOver 28 = .ok (.istore 4, 2) := by decide +kernel
theorem dX11_placesOver_30 : decode cX11_placesOver 30 = .ok (.iload 4, 2) := by decide +kernel
theorem dX11_placesOver_32 : decode cX11_placesOver 32 = .ok (.iload_n 2, 1) := by decide +kernel
theorem dX11_placesOver_33 : decode cX11_placesOver 33 = .ok (.if_icmp .ge 121, 3) := by decide +kernel
theorem dX11_placesOver_36 : decode cX11_placesOver 36 = .ok (.iconst 1, 1) := by decide +kernel
theorem dX11_placesOver_37 : decode cX11_placesOver 37 = .ok (.istore 5, 2) := by decide +kernel
theorem dX11_placesOver_39 : decode cX11_placesOver 39 = .ok (.iconst 0, 1) := by decide +kernel
theorem dX11_placesOver_40 : decode cX11_placesOver 40 = .ok (.istore 6, 2) := by decide +kernel
theorem dX11_placesOver_42 : decode cX11_placesOver 42 = .ok (.iload 6, 2) := by decide +kernel
theorem dX11_placesOver_44 : decode cX11_placesOver 44 = .ok (.aload_n 0, 1) := by decide +kernel
theorem dX11_placesOver_45 : decode cX11_placesOver 45 = .ok (.getfield 7, 3) := by decide +kernel
theorem dX11_placesOver_48 : decode cX11_placesOver 48 = .ok (.bipush 37, 2) := by decide +kernel
theorem dX11_placesOver_50 : decode cX11_placesOver 50 = .ok (.iaload, 1) := by decide +kernel
theorem dX11_placesOver_51 : decode cX11_placesOver 51 = .ok (.if_icmp .ge 84, 3) := by decide +kernel
theorem dX11_placesOver_54 : decode cX11_placesOver 54 = .ok (.iload 5, 2) := by decide +kernel
theorem dX11_placesOver_56 : decode cX11_placesOver 56 = .ok (.ifCond .eq 79, 3) := by decide +kernel
theorem dX11_placesOver_59 : decode cX11_placesOver 59 = .ok (.iload 4, 2) := by decide +kernel
theorem dX11_placesOver_61 : decode cX11_placesOver 61 = .ok (.istore 7, 2) := by decide +kernel
theorem dX11_placesOver_63 : decode cX11_placesOver 63 = .ok (.iconst 0, 1) := by decide +kernel
theorem dX11_placesOver_64 : decode cX11_placesOver 64 = .ok (.istore 8, 2) := by decide +kernel
theorem dX11_placesOver_66 : decode cX11_placesOver 66 = .ok (.iconst 0, 1) := by decide +kernel
theorem dX11_placesOver_67 : decode cX11_placesOver 67 = .ok (.istore 9, 2) := by decide +kernel
theorem dX11_placesOver_69 : decode cX11_placesOver 69 = .ok (.iload 9, 2) := by decide +kernel
theorem dX11_placesOver_71 : decode cX11_placesOver 71 = .ok (.aload_n 0, 1) := by decide +kernel
theorem dX11_placesOver_72 : decode cX11_placesOver 72 = .ok (.getfield 7, 3) := by decide +kernel
theorem dX11_placesOver_75 : decode cX11_placesOver 75 = .ok (.bipush 36, 2) := by decide +kernel
theorem dX11_placesOver_77 : decode cX11_placesOver 77 = .ok (.iaload, 1) := by decide +kernel
theorem dX11_placesOver_78 : decode cX11_placesOver 78 = .ok (.if_icmp .ge 37, 3) := by decide +kernel
theorem dX11_placesOver_81 : decode cX11_placesOver 81 = .ok (.iload 8, 2) := by decide +kernel
theorem dX11_placesOver_83 : decode cX11_placesOver 83 = .ok (.aload_n 0, 1) := by decide +kernel
theorem dX11_placesOver_84 : decode cX11_placesOver 84 = .ok (.getfield 7, 3) := by decide +kernel
theorem dX11_placesOver_87 : decode cX11_placesOver 87 = .ok (.iconst 4, 1) := by decide +kernel
theorem dX11_placesOver_88 : decode cX11_placesOver 88 = .ok (.iload 6, 2) := by decide +kernel
theorem dX11_placesOver_90 : decode cX11_placesOver 90 = .ok (.imul, 1) := by decide +kernel
theorem dX11_placesOver_91 : decode cX11_placesOver 91 = .ok (.iload 9, 2) := by decide +kernel
theorem dX11_placesOver_93 : decode cX11_placesOver 93 = .ok (.iadd, 1) := by decide +kernel
theorem dX11_placesOver_94 : decode cX11_placesOver 94 = .ok (.iaload, 1) := by decide +kernel
theorem dX11_placesOver_95 : decode cX11_placesOver 95 = .ok (.iload 7, 2) := by decide +kernel
theorem dX11_placesOver_97 : decode cX11_placesOver 97 = .ok (.iload_n 1, 1) := by decide +kernel
theorem dX11_placesOver_98 : decode cX11_placesOver 98 = .ok (.irem, 1) := by decide +kernel
theorem dX11_placesOver_99 : decode cX11_placesOver 99 = .ok (.imul, 1) := by decide +kernel
theorem dX11_placesOver_100 : decode cX11_placesOver 100 = .ok (.iadd, 1) := by decide +kernel
theorem dX11_placesOver_101 : decode cX11_placesOver 101 = .ok (.istore 8, 2) := by decide +kernel
theorem dX11_placesOver_103 : decode cX11_placesOver 103 = .ok (.iload 7, 2) := by decide +kernel
theorem dX11_placesOver_105 : decode cX11_placesOver 105 = .ok (.iload_n 1, 1) := by decide +kernel
theorem dX11_placesOver_106 : decode cX11_placesOver 106 = .ok (.idiv, 1) := by decide +kernel
theorem dX11_placesOver_107 : decode cX11_placesOver 107 = .ok (.istore 7, 2) := by decide +kernel
theorem dX11_placesOver_109 : decode cX11_placesOver 109 = .ok (.iinc 9 1, 3) := by decide +kernel
theorem dX11_placesOver_112 : decode cX11_placesOver 112 = .ok (.goto (-43), 3) := by decide +kernel
theorem dX11_placesOver_115 : decode cX11_placesOver 115 = .ok (.iload 8, 2) := by decide +kernel
theorem dX11_placesOver_117 : decode cX11_placesOver 117 = .ok (.iload_n 1, 1) := by decide +kernel
theorem dX11_placesOver_118 : decode cX11_placesOver 118 = .ok (.irem, 1) := by decide +kernel
theorem dX11_placesOver_119 : decode cX11_placesOver 119 = .ok (.ifCond .eq 7, 3) := by decide +kernel
theorem dX11_placesOver_122 : decode cX11_placesOver 122 = .ok (.iconst 1, 1) := by decide +kernel
theorem dX11_placesOver_123 : decode cX11_placesOver 123 = .ok (.goto 4, 3) := by decide +kernel
theorem dX11_placesOver_126 : decode cX11_placesOver 126 = .ok (.iconst 0, 1) := by decide +kernel
theorem dX11_placesOver_127 : decode cX11_placesOver 127 = .ok (.istore 5, 2) := by decide +kernel
theorem dX11_placesOver_129 : decode cX11_placesOver 129 = .ok (.iinc 6 1, 3) := by decide +kernel
theorem dX11_placesOver_132 : decode cX11_placesOver 132 = .ok (.goto (-90), 3) := by decide +kernel
theorem dX11_placesOver_135 : decode cX11_placesOver 135 = .ok (.iload_n 3, 1) := by decide +kernel
theorem dX11_placesOver_136 : decode cX11_placesOver 136 = .ok (.iload 5, 2) := by decide +kernel
theorem dX11_placesOver_138 : decode cX11_placesOver 138 = .ok (.ifCond .eq 7, 3) := by decide +kernel
theorem dX11_placesOver_141 : decode cX11_placesOver 141 = .ok (.iconst 1, 1) := by decide +kernel
theorem dX11_placesOver_142 : decode cX11_placesOver 142 = .ok (.goto 4, 3) := by decide +kernel
theorem dX11_placesOver_145 : decode cX11_placesOver 145 = .ok (.iconst 0, 1) := by decide +kernel
theorem dX11_placesOver_146 : decode cX11_placesOver 146 = .ok (.iadd, 1) := by decide +kernel
theorem dX11_placesOver_147 : decode cX11_placesOver 147 = .ok (.istore_n 3, 1) := by decide +kernel
theorem dX11_placesOver_148 : decode cX11_placesOver 148 = .ok (.iinc 4 1, 3) := by decide +kernel
theorem dX11_placesOver_151 : decode cX11_placesOver 151 = .ok (.goto (-121), 3) := by decide +kernel
theorem dX11_placesOver_154 : decode cX11_placesOver 154 = .ok (.iload_n 3, 1) := by decide +kernel
theorem dX11_placesOver_155 : decode cX11_placesOver 155 = .ok (.ireturn, 1) := by decide +kernel
theorem dX11_isFreeOver_0 : decode cX11_isFreeOver 0 = .ok (.iconst 0, 1) := by decide +kernel
theorem dX11_isFreeOver_1 : decode cX11_isFreeOver 1 = .ok (.istore_n 3, 1) := by decide +kernel
theorem dX11_isFreeOver_2 : decode cX11_isFreeOver 2 = .ok (.iconst 0, 1) := by decide +kernel
theorem dX11_isFreeOver_3 : decode cX11_isFreeOver 3 = .ok (.istore 4, 2) := by decide +kernel
theorem dX11_isFreeOver_5 : decode cX11_isFreeOver 5 = .ok (.iload 4, 2) := by decide +kernel
theorem dX11_isFreeOver_7 : decode cX11_isFreeOver 7 = .ok (.aload_n 0, 1) := by decide +kernel
theorem dX11_isFreeOver_8 : decode cX11_isFreeOver 8 = .ok (.getfield 7, 3) := by decide +kernel
theorem dX11_isFreeOver_11 : decode cX11_isFreeOver 11 = .ok (.bipush 37, 2) := by decide +kernel
theorem dX11_isFreeOver_13 : decode cX11_isFreeOver 13 = .ok (.iaload, 1) := by decide +kernel
theorem dX11_isFreeOver_14 : decode cX11_isFreeOver 14 = .ok (.if_icmp .ge 29, 3) := by decide +kernel
theorem dX11_isFreeOver_17 : decode cX11_isFreeOver 17 = .ok (.iload_n 1, 1) := by decide +kernel
theorem dX11_isFreeOver_18 : decode cX11_isFreeOver 18 = .ok (.iload 4, 2) := by decide +kernel
theorem dX11_isFreeOver_20 : decode cX11_isFreeOver 20 = .ok (.invokestatic 97, 3) := by decide +kernel
theorem dX11_isFreeOver_23 : decode cX11_isFreeOver 23 = .ok (.ifCond .eq 14, 3) := by decide +kernel
theorem dX11_isFreeOver_26 : decode cX11_isFreeOver 26 = .ok (.aload_n 0, 1) := by decide +kernel
theorem dX11_isFreeOver_27 : decode cX11_isFreeOver 27 = .ok (.getfield 45, 3) := by decide +kernel
theorem dX11_isFreeOver_30 : decode cX11_isFreeOver 30 = .ok (.iload_n 3, 1) := by decide +kernel
theorem dX11_isFreeOver_31 : decode cX11_isFreeOver 31 = .ok (.iload 4, 2) := by decide +kernel
theorem dX11_isFreeOver_33 : decode cX11_isFreeOver 33 = .ok (.iastore, 1) := by decide +kernel
theorem dX11_isFreeOver_34 : decode cX11_isFreeOver 34 = .ok (.iinc 3 1, 3) := by decide +kernel
theorem dX11_isFreeOver_37 : decode cX11_isFreeOver 37 = .ok (.iinc 4 1, 3) := by decide +kernel
theorem dX11_isFreeOver_40 : decode cX11_isFreeOver 40 = .ok (.goto (-35), 3) := by decide +kernel
theorem dX11_isFreeOver_43 : decode cX11_isFreeOver 43 = .ok (.iconst 1, 1) := by decide +kernel
theorem dX11_isFreeOver_44 : decode cX11_isFreeOver 44 = .ok (.istore 4, 2) := by decide +kernel
theorem dX11_isFreeOver_46 : decode cX11_isFreeOver 46 = .ok (.iconst 0, 1) := by decide +kernel
theorem dX11_isFreeOver_47 : decode cX11_isFreeOver 47 = .ok (.istore 5, 2) := by decide +kernel
theorem dX11_isFreeOver_49 : decode cX11_isFreeOver 49 = .ok (.iload 5, 2) := by decide +kernel
theorem dX11_isFreeOver_51 : decode cX11_isFreeOver 51 = .ok (.iload_n 3, 1) := by decide +kernel
theorem dX11_isFreeOver_52 : decode cX11_isFreeOver 52 = .ok (.if_icmp .ge 15, 3) := by decide +kernel
theorem dX11_isFreeOver_55 : decode cX11_isFreeOver 55 = .ok (.iload 4, 2) := by decide +kernel
theorem dX11_isFreeOver_57 : decode cX11_isFreeOver 57 = .ok (.iload_n 2, 1) := by decide +kernel
theorem dX11_isFreeOver_58 : decode cX11_isFreeOver 58 = .ok (.imul, 1) := by decide +kernel
theorem dX11_isFreeOver_59 : decode cX11_isFreeOver 59 = .ok (.istore 4, 2) := by decide +kernel
theorem dX11_isFreeOver_61 : decode cX11_isFreeOver 61 = .ok (.iinc 5 1, 3) := by decide +kernel
theorem dX11_isFreeOver_64 : decode cX11_isFreeOver 64 = .ok (.goto (-15), 3) := by decide +kernel
theorem dX11_isFreeOver_67 : decode cX11_isFreeOver 67 = .ok (.iconst 1, 1) := by decide +kernel
theorem dX11_isFreeOver_68 : decode cX11_isFreeOver 68 = .ok (.istore 5, 2) := by decide +kernel
theorem dX11_isFreeOver_70 : decode cX11_isFreeOver 70 = .ok (.iload 5, 2) := by decide +kernel
theorem dX11_isFreeOver_72 : decode cX11_isFreeOver 72 = .ok (.iload 4, 2) := by decide +kernel
theorem dX11_isFreeOver_74 : decode cX11_isFreeOver 74 = .ok (.if_icmp .ge 114, 3) := by decide +kernel
theorem dX11_isFreeOver_77 : decode cX11_isFreeOver 77 = .ok (.iconst 1, 1) := by decide +kernel
theorem dX11_isFreeOver_78 : decode cX11_isFreeOver 78 = .ok (.istore 6, 2) := by decide +kernel
theorem dX11_isFreeOver_80 : decode cX11_isFreeOver 80 = .ok (.iconst 0, 1) := by decide +kernel
theorem dX11_isFreeOver_81 : decode cX11_isFreeOver 81 = .ok (.istore 7, 2) := by decide +kernel
theorem dX11_isFreeOver_83 : decode cX11_isFreeOver 83 = .ok (.iload 7, 2) := by decide +kernel
theorem dX11_isFreeOver_85 : decode cX11_isFreeOver 85 = .ok (.aload_n 0, 1) := by decide +kernel
theorem dX11_isFreeOver_86 : decode cX11_isFreeOver 86 = .ok (.getfield 7, 3) := by decide +kernel
theorem dX11_isFreeOver_89 : decode cX11_isFreeOver 89 = .ok (.bipush 36, 2) := by decide +kernel
theorem dX11_isFreeOver_91 : decode cX11_isFreeOver 91 = .ok (.iaload, 1) := by decide +kernel
theorem dX11_isFreeOver_92 : decode cX11_isFreeOver 92 = .ok (.if_icmp .ge 83, 3) := by decide +kernel
theorem dX11_isFreeOver_95 : decode cX11_isFreeOver 95 = .ok (.iload 6, 2) := by decide +kernel
theorem dX11_isFreeOver_97 : decode cX11_isFreeOver 97 = .ok (.ifCond .eq 78, 3) := by decide +kernel
theorem dX11_isFreeOver_100 : decode cX11_isFreeOver 100 = .ok (.iload 5, 2) := by decide +kernel
theorem dX11_isFreeOver_102 : decode cX11_isFreeOver 102 = .ok (.istore 8, 2) := by decide +kernel
theorem dX11_isFreeOver_104 : decode cX11_isFreeOver 104 = .ok (.iconst 0, 1) := by decide +kernel
theorem dX11_isFreeOver_105 : decode cX11_isFreeOver 105 = .ok (.istore 9, 2) := by decide +kernel
theorem dX11_isFreeOver_107 : decode cX11_isFreeOver 107 = .ok (.iconst 0, 1) := by decide +kernel
theorem dX11_isFreeOver_108 : decode cX11_isFreeOver 108 = .ok (.istore 10, 2) := by decide +kernel
theorem dX11_isFreeOver_110 : decode cX11_isFreeOver 110 = .ok (.iload 10, 2) := by decide +kernel
theorem dX11_isFreeOver_112 : decode cX11_isFreeOver 112 = .ok (.iload_n 3, 1) := by decide +kernel
theorem dX11_isFreeOver_113 : decode cX11_isFreeOver 113 = .ok (.if_icmp .ge 42, 3) := by decide +kernel
theorem dX11_isFreeOver_116 : decode cX11_isFreeOver 116 = .ok (.iload 9, 2) := by decide +kernel
theorem dX11_isFreeOver_118 : decode cX11_isFreeOver 118 = .ok (.aload_n 0, 1) := by decide +kernel
theorem dX11_isFreeOver_119 : decode cX11_isFreeOver 119 = .ok (.getfield 7, 3) := by decide +kernel
theorem dX11_isFreeOver_122 : decode cX11_isFreeOver 122 = .ok (.iconst 4, 1) := by decide +kernel
theorem dX11_isFreeOver_123 : decode cX11_isFreeOver 123 = .ok (.aload_n 0, 1) := by decide +kernel
theorem dX11_isFreeOver_124 : decode cX11_isFreeOver 124 = .ok (.getfield 45, 3) := by decide +kernel
theorem dX11_isFreeOver_127 : decode cX11_isFreeOver 127 = .ok (.iload 10, 2) := by decide +kernel
theorem dX11_isFreeOver_129 : decode cX11_isFreeOver 129 = .ok (.iaload, 1) := by decide +kernel
theorem dX11_isFreeOver_130 : decode cX11_isFreeOver 130 = .ok (.imul, 1) := by decide +kernel
theorem dX11_isFreeOver_131 : decode cX11_isFreeOver 131 = .ok (.iload 7, 2) := by decide +kernel
theorem dX11_isFreeOver_133 : decode cX11_isFreeOver 133 = .ok (.iadd, 1) := by decide +kernel
theorem dX11_isFreeOver_134 : decode cX11_isFreeOver 134 = .ok (.iaload, 1) := by decide +kernel
theorem dX11_isFreeOver_135 : decode cX11_isFreeOver 135 = .ok (.iload 8, 2) := by decide +kernel
theorem dX11_isFreeOver_137 : decode cX11_isFreeOver 137 = .ok (.iload_n 2, 1) := by decide +kernel
theorem dX11_isFreeOver_138 : decode cX11_isFreeOver 138 = .ok (.irem, 1) := by decide +kernel
theorem dX11_isFreeOver_139 : decode cX11_isFreeOver 139 = .ok (.imul, 1) := by decide +kernel
theorem dX11_isFreeOver_140 : decode cX11_isFreeOver 140 = .ok (.iadd, 1) := by decide +kernel
theorem dX11_isFreeOver_141 : decode cX11_isFreeOver 141 = .ok (.istore 9, 2) := by decide +kernel
theorem dX11_isFreeOver_143 : decode cX11_isFreeOver 143 = .ok (.iload 8, 2) := by decide +kernel
theorem dX11_isFreeOver_145 : decode cX11_isFreeOver 145 = .ok (.iload_n 2, 1) := by decide +kernel
theorem dX11_isFreeOver_146 : decode cX11_isFreeOver 146 = .ok (.idiv, 1) := by decide +kernel
theorem dX11_isFreeOver_147 : decode cX11_isFreeOver 147 = .ok (.istore 8, 2) := by decide +kernel
theorem dX11_isFreeOver_149 : decode cX11_isFreeOver 149 = .ok (.iinc 10 1, 3) := by decide +kernel
theorem dX11_isFreeOver_152 : decode cX11_isFreeOver 152 = .ok (.goto (-42), 3) := by decide +kernel
theorem dX11_isFreeOver_155 : decode cX11_isFreeOver 155 = .ok (.iload 9, 2) := by decide +kernel
theorem dX11_isFreeOver_157 : decode cX11_isFreeOver 157 = .ok (.iload_n 2, 1) := by decide +kernel
theorem dX11_isFreeOver_158 : decode cX11_isFreeOver 158 = .ok (.irem, 1) := by decide +kernel
theorem dX11_isFreeOver_159 : decode cX11_isFreeOver 159 = .ok (.ifCond .ne 7, 3) := by decide +kernel
theorem dX11_isFreeOver_162 : decode cX11_isFreeOver 162 = .ok (.iconst 1, 1) := by decide +kernel
theorem dX11_isFreeOver_163 : decode cX11_isFreeOver 163 = .ok (.goto 4, 3) := by decide +kernel
theorem dX11_isFreeOver_166 : decode cX11_isFreeOver 166 = .ok (.iconst 0, 1) := by decide +kernel
theorem dX11_isFreeOver_167 : decode cX11_isFreeOver 167 = .ok (.istore 6, 2) := by decide +kernel
theorem dX11_isFreeOver_169 : decode cX11_isFreeOver 169 = .ok (.iinc 7 1, 3) := by decide +kernel
theorem dX11_isFreeOver_172 : decode cX11_isFreeOver 172 = .ok (.goto (-89), 3) := by decide +kernel
theorem dX11_isFreeOver_175 : decode cX11_isFreeOver 175 = .ok (.iload 6, 2) := by decide +kernel
theorem dX11_isFreeOver_177 : decode cX11_isFreeOver 177 = .ok (.ifCond .eq 5, 3) := by decide +kernel
theorem dX11_isFreeOver_180 : decode cX11_isFreeOver 180 = .ok (.iconst 0, 1) := by decide +kernel
theorem dX11_isFreeOver_181 : decode cX11_isFreeOver 181 = .ok (.ireturn, 1) := by decide +kernel
theorem dX11_isFreeOver_182 : decode cX11_isFreeOver 182 = .ok (.iinc 5 1, 3) := by decide +kernel
theorem dX11_isFreeOver_185 : decode cX11_isFreeOver 185 = .ok (.goto (-115), 3) := by decide +kernel
theorem dX11_isFreeOver_188 : decode cX11_isFreeOver 188 = .ok (.iconst 1, 1) := by decide +kernel
theorem dX11_isFreeOver_189 : decode cX11_isFreeOver 189 = .ok (.ireturn, 1) := by decide +kernel
theorem dX11_isGood_0 : decode cX11_isGood 0 = .ok (.aload_n 0, 1) := by decide +kernel
theorem dX11_isGood_1 : decode cX11_isGood 1 = .ok (.invokevirtual 187, 3) := by decide +kernel
theorem dX11_isGood_4 : decode cX11_isGood 4 = .ok (.iconst 1, 1) := by decide +kernel
theorem dX11_isGood_5 : decode cX11_isGood 5 = .ok (.istore_n 2, 1) := by decide +kernel
theorem dX11_isGood_6 : decode cX11_isGood 6 = .ok (.iconst 0, 1) := by decide +kernel
theorem dX11_isGood_7 : decode cX11_isGood 7 = .ok (.istore_n 3, 1) := by decide +kernel
theorem dX11_isGood_8 : decode cX11_isGood 8 = .ok (.iload_n 3, 1) := by decide +kernel
theorem dX11_isGood_9 : decode cX11_isGood 9 = .ok (.aload_n 0, 1) := by decide +kernel
theorem dX11_isGood_10 : decode cX11_isGood 10 = .ok (.invokevirtual 109, 3) := by decide +kernel
theorem dX11_isGood_13 : decode cX11_isGood 13 = .ok (.if_icmp .gt 36, 3) := by decide +kernel
theorem dX11_isGood_16 : decode cX11_isGood 16 = .ok (.iload_n 2, 1) := by decide +kernel
theorem dX11_isGood_17 : decode cX11_isGood 17 = .ok (.ifCond .eq 32, 3) := by decide +kernel
theorem dX11_isGood_20 : decode cX11_isGood 20 = .ok (.aload_n 0, 1) := by decide +kernel
theorem dX11_isGood_21 : decode cX11_isGood 21 = .ok (.iload_n 3, 1) := by decide +kernel
theorem dX11_isGood_22 : decode cX11_isGood 22 = .ok (.invokevirtual 133, 3) := by decide +kernel
theorem dX11_isGood_25 : decode cX11_isGood 25 = .ok (.ifCond .ne 12, 3) := by decide +kernel
theorem dX11_isGood_28 : decode cX11_isGood 28 = .ok (.aload_n 0, 1) := by decide +kernel
theorem dX11_isGood_29 : decode cX11_isGood 29 = .ok (.iload_n 3, 1) := by decide +kernel
theorem dX11_isGood_30 : decode cX11_isGood 30 = .ok (.iload_n 1, 1) := by decide +kernel
theorem dX11_isGood_31 : decode cX11_isGood 31 = .ok (.invokevirtual 222, 3) := by decide +kernel
theorem dX11_isGood_34 : decode cX11_isGood 34 = .ok (.ifCond .eq 7, 3) := by decide +kernel
theorem dX11_isGood_37 : decode cX11_isGood 37 = .ok (.iconst 1, 1) := by decide +kernel
theorem dX11_isGood_38 : decode cX11_isGood 38 = .ok (.goto 4, 3) := by decide +kernel
theorem dX11_isGood_41 : decode cX11_isGood 41 = .ok (.iconst 0, 1) := by decide +kernel
theorem dX11_isGood_42 : decode cX11_isGood 42 = .ok (.istore_n 2, 1) := by decide +kernel
theorem dX11_isGood_43 : decode cX11_isGood 43 = .ok (.iinc 3 1, 3) := by decide +kernel
theorem dX11_isGood_46 : decode cX11_isGood 46 = .ok (.goto (-38), 3) := by decide +kernel
theorem dX11_isGood_49 : decode cX11_isGood 49 = .ok (.iload_n 2, 1) := by decide +kernel
theorem dX11_isGood_50 : decode cX11_isGood 50 = .ok (.ireturn, 1) := by decide +kernel
theorem dX11_places_0 : decode cX11_places 0 = .ok (.iload_n 1, 1) := by decide +kernel
theorem dX11_places_1 : decode cX11_places 1 = .ok (.iconst 2, 1) := by decide +kernel
theorem dX11_places_2 : decode cX11_places 2 = .ok (.if_icmp .eq 19, 3) := by decide +kernel
theorem dX11_places_5 : decode cX11_places 5 = .ok (.iload_n 1, 1) := by decide +kernel
theorem dX11_places_6 : decode cX11_places 6 = .ok (.iconst 3, 1) := by decide +kernel
theorem dX11_places_7 : decode cX11_places 7 = .ok (.if_icmp .eq 14, 3) := by decide +kernel
theorem dX11_places_10 : decode cX11_places 10 = .ok (.iload_n 1, 1) := by decide +kernel
theorem dX11_places_11 : decode cX11_places 11 = .ok (.iconst 5, 1) := by decide +kernel
theorem dX11_places_12 : decode cX11_places 12 = .ok (.if_icmp .eq 9, 3) := by decide +kernel
theorem dX11_places_15 : decode cX11_places 15 = .ok (.iload_n 1, 1) := by decide +kernel
theorem dX11_places_16 : decode cX11_places 16 = .ok (.bipush 7, 2) := by decide +kernel
theorem dX11_places_18 : decode cX11_places 18 = .ok (.if_icmp .ne 12, 3) := by decide +kernel
theorem dX11_places_21 : decode cX11_places 21 = .ok (.iload_n 2, 1) := by decide +kernel
theorem dX11_places_22 : decode cX11_places 22 = .ok (.iconst 0, 1) := by decide +kernel
theorem dX11_places_23 : decode cX11_places 23 = .ok (.iconst 1, 1) := by decide +kernel
theorem dX11_places_24 : decode cX11_places 24 = .ok (.invokestatic 113, 3) := by decide +kernel
theorem dX11_places_27 : decode cX11_places 27 = .ok (.ifCond .ne 10, 3) := by decide +kernel
theorem dX11_places_30 : decode cX11_places 30 = .ok (.aload_n 0, 1) := by decide +kernel
theorem dX11_places_31 : decode cX11_places 31 = .ok (.bipush (-2), 2) := by decide +kernel
theorem dX11_places_33 : decode cX11_places 33 = .ok (.invokevirtual 89, 3) := by decide +kernel
theorem dX11_places_36 : decode cX11_places 36 = .ok (.ireturn, 1) := by decide +kernel
theorem dX11_places_37 : decode cX11_places 37 = .ok (.iload_n 2, 1) := by decide +kernel
theorem dX11_places_38 : decode cX11_places 38 = .ok (.ifCond .ne 11, 3) := by decide +kernel
theorem dX11_places_41 : decode cX11_places 41 = .ok (.aload_n 0, 1) := by decide +kernel
theorem dX11_places_42 : decode cX11_places 42 = .ok (.iload_n 1, 1) := by decide +kernel
theorem dX11_places_43 : decode cX11_places 43 = .ok (.invokevirtual 225, 3) := by decide +kernel
theorem dX11_places_46 : decode cX11_places 46 = .ok (.goto 16, 3) := by decide +kernel
theorem dX11_places_49 : decode cX11_places 49 = .ok (.aload_n 0, 1) := by decide +kernel
theorem dX11_places_50 : decode cX11_places 50 = .ok (.iload_n 1, 1) := by decide +kernel
theorem dX11_places_51 : decode cX11_places 51 = .ok (.invokevirtual 228, 3) := by decide +kernel
theorem dX11_places_54 : decode cX11_places 54 = .ok (.ifCond .eq 7, 3) := by decide +kernel
theorem dX11_places_57 : decode cX11_places 57 = .ok (.iconst 1, 1) := by decide +kernel
theorem dX11_places_58 : decode cX11_places 58 = .ok (.goto 4, 3) := by decide +kernel
theorem dX11_places_61 : decode cX11_places 61 = .ok (.iconst 0, 1) := by decide +kernel
theorem dX11_places_62 : decode cX11_places 62 = .ok (.ireturn, 1) := by decide +kernel
theorem dX11_broken_0 : decode cX11_broken 0 = .ok (.iconst 0, 1) := by decide +kernel
theorem dX11_broken_1 : decode cX11_broken 1 = .ok (.istore_n 2, 1) := by decide +kernel
theorem dX11_broken_2 : decode cX11_broken 2 = .ok (.iload_n 2, 1) := by decide +kernel
theorem dX11_broken_3 : decode cX11_broken 3 = .ok (.aload_n 0, 1) := by decide +kernel
theorem dX11_broken_4 : decode cX11_broken 4 = .ok (.getfield 120, 3) := by decide +kernel
theorem dX11_broken_7 : decode cX11_broken 7 = .ok (.if_icmp .ge 35, 3) := by decide +kernel
theorem dX11_broken_10 : decode cX11_broken 10 = .ok (.aload_n 0, 1) := by decide +kernel
theorem dX11_broken_11 : decode cX11_broken 11 = .ok (.getfield 36, 3) := by decide +kernel
theorem dX11_broken_14 : decode cX11_broken 14 = .ok (.iload_n 2, 1) := by decide +kernel
theorem dX11_broken_15 : decode cX11_broken 15 = .ok (.iaload, 1) := by decide +kernel
theorem dX11_broken_16 : decode cX11_broken 16 = .ok (.aload_n 0, 1) := by decide +kernel
theorem dX11_broken_17 : decode cX11_broken 17 = .ok (.getfield 36, 3) := by decide +kernel
theorem dX11_broken_20 : decode cX11_broken 20 = .ok (.iload_n 2, 1) := by decide +kernel
theorem dX11_broken_21 : decode cX11_broken 21 = .ok (.iaload, 1) := by decide +kernel
theorem dX11_broken_22 : decode cX11_broken 22 = .ok (.iconst 1, 1) := by decide +kernel
theorem dX11_broken_23 : decode cX11_broken 23 = .ok (.isub, 1) := by decide +kernel
theorem dX11_broken_24 : decode cX11_broken 24 = .ok (.iand, 1) := by decide +kernel
theorem dX11_broken_25 : decode cX11_broken 25 = .ok (.istore_n 3, 1) := by decide +kernel
theorem dX11_broken_26 : decode cX11_broken 26 = .ok (.iload_n 3, 1) := by decide +kernel
theorem dX11_broken_27 : decode cX11_broken 27 = .ok (.iload_n 1, 1) := by decide +kernel
theorem dX11_broken_28 : decode cX11_broken 28 = .ok (.iconst (-1), 1) := by decide +kernel
theorem dX11_broken_29 : decode cX11_broken 29 = .ok (.ixor, 1) := by decide +kernel
theorem dX11_broken_30 : decode cX11_broken 30 = .ok (.iand, 1) := by decide +kernel
theorem dX11_broken_31 : decode cX11_broken 31 = .ok (.ifCond .ne 5, 3) := by decide +kernel
theorem dX11_broken_34 : decode cX11_broken 34 = .ok (.iload_n 2, 1) := by decide +kernel
theorem dX11_broken_35 : decode cX11_broken 35 = .ok (.ireturn, 1) := by decide +kernel
theorem dX11_broken_36 : decode cX11_broken 36 = .ok (.iinc 2 1, 3) := by decide +kernel
theorem dX11_broken_39 : decode cX11_broken 39 = .ok (.goto (-37), 3) := by decide +kernel
theorem dX11_broken_42 : decode cX11_broken 42 = .ok (.iconst (-1), 1) := by decide +kernel
theorem dX11_broken_43 : decode cX11_broken 43 = .ok (.ireturn, 1) := by decide +kernel
theorem dX11_isBase_0 : decode cX11_isBase 0 = .ok (.aload_n 0, 1) := by decide +kernel
theorem dX11_isBase_1 : decode cX11_isBase 1 = .ok (.iload_n 1, 1) := by decide +kernel
theorem dX11_isBase_2 : decode cX11_isBase 2 = .ok (.invokevirtual 133, 3) := by decide +kernel
theorem dX11_isBase_5 : decode cX11_isBase 5 = .ok (.ifCond .ne 16, 3) := by decide +kernel
theorem dX11_isBase_8 : decode cX11_isBase 8 = .ok (.aload_n 0, 1) := by decide +kernel
theorem dX11_isBase_9 : decode cX11_isBase 9 = .ok (.iload_n 1, 1) := by decide +kernel
theorem dX11_isBase_10 : decode cX11_isBase 10 = .ok (.invokevirtual 231, 3) := by decide +kernel
theorem dX11_isBase_13 : decode cX11_isBase 13 = .ok (.iconst (-1), 1) := by decide +kernel
theorem dX11_isBase_14 : decode cX11_isBase 14 = .ok (.if_icmp .ne 7, 3) := by decide +kernel
theorem dX11_isBase_17 : decode cX11_isBase 17 = .ok (.iconst 1, 1) := by decide +kernel
theorem dX11_isBase_18 : decode cX11_isBase 18 = .ok (.goto 4, 3) := by decide +kernel
theorem dX11_isBase_21 : decode cX11_isBase 21 = .ok (.iconst 0, 1) := by decide +kernel
theorem dX11_isBase_22 : decode cX11_isBase 22 = .ok (.ireturn, 1) := by decide +kernel
theorem dX11_baseOf_0 : decode cX11_baseOf 0 = .ok (.aload_n 0, 1) := by decide +kernel
theorem dX11_baseOf_1 : decode cX11_baseOf 1 = .ok (.invokevirtual 187, 3) := by decide +kernel
theorem dX11_baseOf_4 : decode cX11_baseOf 4 = .ok (.iconst 0, 1) := by decide +kernel
theorem dX11_baseOf_5 : decode cX11_baseOf 5 = .ok (.istore_n 3, 1) := by decide +kernel
theorem dX11_baseOf_6 : decode cX11_baseOf 6 = .ok (.iconst 0, 1) := by decide +kernel
theorem dX11_baseOf_7 : decode cX11_baseOf 7 = .ok (.istore 4, 2) := by decide +kernel
theorem dX11_baseOf_9 : decode cX11_baseOf 9 = .ok (.iload 4, 2) := by decide +kernel
theorem dX11_baseOf_11 : decode cX11_baseOf 11 = .ok (.aload_n 0, 1) := by decide +kernel
theorem dX11_baseOf_12 : decode cX11_baseOf 12 = .ok (.invokevirtual 109, 3) := by decide +kernel
theorem dX11_baseOf_15 : decode cX11_baseOf 15 = .ok (.if_icmp .gt 38, 3) := by decide +kernel
theorem dX11_baseOf_18 : decode cX11_baseOf 18 = .ok (.iload 4, 2) := by decide +kernel
theorem dX11_baseOf_20 : decode cX11_baseOf 20 = .ok (.invokestatic 123, 3) := by decide +kernel
theorem dX11_baseOf_23 : decode cX11_baseOf 23 = .ok (.iload_n 1, 1) := by decide +kernel
theorem dX11_baseOf_24 : decode cX11_baseOf 24 = .ok (.if_icmp .ne 23, 3) := by decide +kernel
theorem dX11_baseOf_27 : decode cX11_baseOf 27 = .ok (.aload_n 0, 1) := by decide +kernel
theorem dX11_baseOf_28 : decode cX11_baseOf 28 = .ok (.iload 4, 2) := by decide +kernel
theorem dX11_baseOf_30 : decode cX11_baseOf 30 = .ok (.invokevirtual 234, 3) := by decide +kernel
theorem dX11_baseOf_33 : decode cX11_baseOf 33 = .ok (.ifCond .eq 14, 3) := by decide +kernel
theorem dX11_baseOf_36 : decode cX11_baseOf 36 = .ok (.iload_n 3, 1) := by decide +kernel
theorem dX11_baseOf_37 : decode cX11_baseOf 37 = .ok (.iload_n 2, 1) := by decide +kernel
theorem dX11_baseOf_38 : decode cX11_baseOf 38 = .ok (.if_icmp .ne 6, 3) := by decide +kernel
theorem dX11_baseOf_41 : decode cX11_baseOf 41 = .ok (.iload 4, 2) := by decide +kernel
theorem dX11_baseOf_43 : decode cX11_baseOf 43 = .ok (.ireturn, 1) := by decide +kernel
theorem dX11_baseOf_44 : decode cX11_baseOf 44 = .ok (.iinc 3 1, 3) := by decide +kernel
theorem dX11_baseOf_47 : decode cX11_baseOf 47 = .ok (.iinc 4 1, 3) := by decide +kernel
theorem dX11_baseOf_50 : decode cX11_baseOf 50 = .ok (.goto (-41), 3) := by decide +kernel
theorem dX11_baseOf_53 : decode cX11_baseOf 53 = .ok (.iload_n 2, 1) := by decide +kernel
theorem dX11_baseOf_54 : decode cX11_baseOf 54 = .ok (.iconst (-1), 1) := by decide +kernel
theorem dX11_baseOf_55 : decode cX11_baseOf 55 = .ok (.if_icmp .ne 7, 3) := by decide +kernel
theorem dX11_baseOf_58 : decode cX11_baseOf 58 = .ok (.iload_n 3, 1) := by decide +kernel
theorem dX11_baseOf_59 : decode cX11_baseOf 59 = .ok (.goto 5, 3) := by decide +kernel
theorem dX11_baseOf_62 : decode cX11_baseOf 62 = .ok (.bipush (-5), 2) := by decide +kernel
theorem dX11_baseOf_64 : decode cX11_baseOf 64 = .ok (.ireturn, 1) := by decide +kernel
theorem dX11_base_0 : decode cX11_base 0 = .ok (.iload_n 1, 1) := by decide +kernel
theorem dX11_base_1 : decode cX11_base 1 = .ok (.iconst 0, 1) := by decide +kernel
theorem dX11_base_2 : decode cX11_base 2 = .ok (.iconst 4, 1) := by decide +kernel
theorem dX11_base_3 : decode cX11_base 3 = .ok (.invokestatic 113, 3) := by decide +kernel
theorem dX11_base_6 : decode cX11_base 6 = .ok (.ifCond .eq 17, 3) := by decide +kernel
theorem dX11_base_9 : decode cX11_base 9 = .ok (.iload_n 2, 1) := by decide +kernel
theorem dX11_base_10 : decode cX11_base 10 = .ok (.iconst (-1), 1) := by decide +kernel
theorem dX11_base_11 : decode cX11_base 11 = .ok (.if_icmp .lt 12, 3) := by decide +kernel
theorem dX11_base_14 : decode cX11_base 14 = .ok (.aload_n 0, 1) := by decide +kernel
theorem dX11_base_15 : decode cX11_base 15 = .ok (.iload_n 1, 1) := by decide +kernel
theorem dX11_base_16 : decode cX11_base 16 = .ok (.iload_n 2, 1) := by decide +kernel
theorem dX11_base_17 : decode cX11_base 17 = .ok (.invokevirtual 237, 3) := by decide +kernel
theorem dX11_base_20 : decode cX11_base 20 = .ok (.goto 9, 3) := by decide +kernel
theorem dX11_base_23 : decode cX11_base 23 = .ok (.aload_n 0, 1) := by decide +kernel
theorem dX11_base_24 : decode cX11_base 24 = .ok (.bipush (-2), 2) := by decide +kernel
theorem dX11_base_26 : decode cX11_base 26 = .ok (.invokevirtual 89, 3) := by decide +kernel
theorem dX11_base_29 : decode cX11_base 29 = .ok (.ireturn, 1) := by decide +kernel
theorem dX11_turned_0 : decode cX11_turned 0 = .ok (.iconst 0, 1) := by decide +kernel
theorem dX11_turned_1 : decode cX11_turned 1 = .ok (.istore_n 2, 1) := by decide +kernel
theorem dX11_turned_2 : decode cX11_turned 2 = .ok (.iconst 0, 1) := by decide +kernel
theorem dX11_turned_3 : decode cX11_turned 3 = .ok (.istore_n 3, 1) := by decide +kernel
theorem dX11_turned_4 : decode cX11_turned 4 = .ok (.iload_n 3, 1) := by decide +kernel
theorem dX11_turned_5 : decode cX11_turned 5 = .ok (.bipush 9, 2) := by decide +kernel
theorem dX11_turned_7 : decode cX11_turned 7 = .ok (.if_icmp .ge 34, 3) := by decide +kernel
theorem dX11_turned_10 : decode cX11_turned 10 = .ok (.iload_n 2, 1) := by decide +kernel
theorem dX11_turned_11 : decode cX11_turned 11 = .ok (.iload_n 0, 1) := by decide +kernel
theorem dX11_turned_12 : decode cX11_turned 12 = .ok (.iload_n 3, 1) := by decide +kernel
theorem dX11_turned_13 : decode cX11_turned 13 = .ok (.invokestatic 97, 3) := by decide +kernel
theorem dX11_turned_16 : decode cX11_turned 16 = .ok (.ifCond .eq 16, 3) := by decide +kernel
theorem dX11_turned_19 : decode cX11_turned 19 = .ok (.iload_n 1, 1) := by decide +kernel
theorem dX11_turned_20 : decode cX11_turned 20 = .ok (.iconst 1, 1) := by decide +kernel
theorem dX11_turned_21 : decode cX11_turned 21 = .ok (.iload_n 3, 1) := by decide +kernel
theorem dX11_turned_22 : decode cX11_turned 22 = .ok (.ishl, 1) := by decide +kernel
theorem dX11_turned_23 : decode cX11_turned 23 = .ok (.iconst 1, 1) := by decide +kernel
theorem dX11_turned_24 : decode cX11_turned 24 = .ok (.isub, 1) := by decide +kernel
theorem dX11_turned_25 : decode cX11_turned 25 = .ok (.iand, 1) := by decide +kernel
theorem dX11_turned_26 : decode cX11_turned 26 = .ok (.invokestatic 123, 3) := by decide +kernel
theorem dX11_turned_29 : decode cX11_turned 29 = .ok (.goto 4, 3) := by decide +kernel
theorem dX11_turned_32 : decode cX11_turned 32 = .ok (.iconst 0, 1) := by decide +kernel
theorem dX11_turned_33 : decode cX11_turned 33 = .ok (.iadd, 1) := by decide +kernel
theorem dX11_turned_34 : decode cX11_turned 34 = .ok (.istore_n 2, 1) := by decide +kernel
theorem dX11_turned_35 : decode cX11_turned 35 = .ok (.iinc 3 1, 3) := by decide +kernel
theorem dX11_turned_38 : decode cX11_turned 38 = .ok (.goto (-34), 3) := by decide +kernel
theorem dX11_turned_41 : decode cX11_turned 41 = .ok (.iload_n 2, 1) := by decide +kernel
theorem dX11_turned_42 : decode cX11_turned 42 = .ok (.iconst 2, 1) := by decide +kernel
theorem dX11_turned_43 : decode cX11_turned 43 = .ok (.irem, 1) := by decide +kernel
theorem dX11_turned_44 : decode cX11_turned 44 = .ok (.ifCond .ne 7, 3) := by decide +kernel
theorem dX11_turned_47 : decode cX11_turned 47 = .ok (.iconst 1, 1) := by decide +kernel
theorem dX11_turned_48 : decode cX11_turned 48 = .ok (.goto 4, 3) := by decide +kernel
theorem dX11_turned_51 : decode cX11_turned 51 = .ok (.iconst (-1), 1) := by decide +kernel
theorem dX11_turned_52 : decode cX11_turned 52 = .ok (.ireturn, 1) := by decide +kernel
theorem dX11_form_0 : decode cX11_form 0 = .ok (.aload_n 0, 1) := by decide +kernel
theorem dX11_form_1 : decode cX11_form 1 = .ok (.iload_n 1, 1) := by decide +kernel
theorem dX11_form_2 : decode cX11_form 2 = .ok (.invokevirtual 193, 3) := by decide +kernel
theorem dX11_form_5 : decode cX11_form 5 = .ok (.ifCond .eq 15, 3) := by decide +kernel
theorem dX11_form_8 : decode cX11_form 8 = .ok (.iload_n 1, 1) := by decide +kernel
theorem dX11_form_9 : decode cX11_form 9 = .ok (.invokestatic 123, 3) := by decide +kernel
theorem dX11_form_12 : decode cX11_form 12 = .ok (.iconst 4, 1) := by decide +kernel
theorem dX11_form_13 : decode cX11_form 13 = .ok (.if_icmp .gt 7, 3) := by decide +kernel
theorem dX11_form_16 : decode cX11_form 16 = .ok (.iload_n 2, 1) := by decide +kernel
theorem dX11_form_17 : decode cX11_form 17 = .ok (.ifCond .ge 10, 3) := by decide +kernel
theorem dX11_form_20 : decode cX11_form 20 = .ok (.aload_n 0, 1) := by decide +kernel
theorem dX11_form_21 : decode cX11_form 21 = .ok (.bipush (-2), 2) := by decide +kernel
theorem dX11_form_23 : decode cX11_form 23 = .ok (.invokevirtual 89, 3) := by decide +kernel
theorem dX11_form_26 : decode cX11_form 26 = .ok (.ireturn, 1) := by decide +kernel
theorem dX11_form_27 : decode cX11_form 27 = .ok (.aload_n 0, 1) := by decide +kernel
theorem dX11_form_28 : decode cX11_form 28 = .ok (.iload_n 1, 1) := by decide +kernel
theorem dX11_form_29 : decode cX11_form 29 = .ok (.invokestatic 123, 3) := by decide +kernel
theorem dX11_form_32 : decode cX11_form 32 = .ok (.iload_n 2, 1) := by decide +kernel
theorem dX11_form_33 : decode cX11_form 33 = .ok (.invokevirtual 237, 3) := by decide +kernel
theorem dX11_form_36 : decode cX11_form 36 = .ok (.istore_n 3, 1) := by decide +kernel
theorem dX11_form_37 : decode cX11_form 37 = .ok (.iload_n 3, 1) := by decide +kernel
theorem dX11_form_38 : decode cX11_form 38 = .ok (.bipush (-5), 2) := by decide +kernel
theorem dX11_form_40 : decode cX11_form 40 = .ok (.if_icmp .ne 10, 3) := by decide +kernel
theorem dX11_form_43 : decode cX11_form 43 = .ok (.aload_n 0, 1) := by decide +kernel
theorem dX11_form_44 : decode cX11_form 44 = .ok (.bipush (-3), 2) := by decide +kernel
theorem dX11_form_46 : decode cX11_form 46 = .ok (.invokevirtual 89, 3) := by decide +kernel
theorem dX11_form_49 : decode cX11_form 49 = .ok (.ireturn, 1) := by decide +kernel
theorem dX11_form_50 : decode cX11_form 50 = .ok (.iconst 0, 1) := by decide +kernel
theorem dX11_form_51 : decode cX11_form 51 = .ok (.istore 4, 2) := by decide +kernel
theorem dX11_form_53 : decode cX11_form 53 = .ok (.iload 4, 2) := by decide +kernel
theorem dX11_form_55 : decode cX11_form 55 = .ok (.sipush 512, 3) := by decide +kernel
theorem dX11_form_58 : decode cX11_form 58 = .ok (.if_icmp .ge 27, 3) := by decide +kernel
theorem dX11_form_61 : decode cX11_form 61 = .ok (.aload_n 0, 1) := by decide +kernel
theorem dX11_form_62 : decode cX11_form 62 = .ok (.getfield 73, 3) := by decide +kernel
theorem dX11_form_65 : decode cX11_form 65 = .ok (.iload 4, 2) := by decide +kernel
theorem dX11_form_67 : decode cX11_form 67 = .ok (.iload 4, 2) := by decide +kernel
theorem dX11_form_69 : decode cX11_form 69 = .ok (.iload_n 1, 1) := by decide +kernel
