theorem dX1_init_0 : decode cX1_init 0 = .ok (.aload_n 0, 1) := by decide +kernel
theorem dX1_init_1 : decode cX1_init 1 = .ok (.invokespecial 1, 3) := by decide +kernel
theorem dX1_init_4 : decode cX1_init 4 = .ok (.aload_n 0, 1) := by decide +kernel
theorem dX1_init_5 : decode cX1_init 5 = .ok (.sipush 301, 3) := by decide +kernel
theorem dX1_init_8 : decode cX1_init 8 = .ok (.newarray .int, 2) := by decide +kernel
theorem dX1_init_10 : decode cX1_init 10 = .ok (.putfield 7, 3) := by decide +kernel
theorem dX1_init_13 : decode cX1_init 13 = .ok (.aload_n 0, 1) := by decide +kernel
theorem dX1_init_14 : decode cX1_init 14 = .ok (.sipush 301, 3) := by decide +kernel
theorem dX1_init_17 : decode cX1_init 17 = .ok (.newarray .int, 2) := by decide +kernel
theorem dX1_init_19 : decode cX1_init 19 = .ok (.putfield 13, 3) := by decide +kernel
theorem dX1_init_22 : decode cX1_init 22 = .ok (.aload_n 0, 1) := by decide +kernel
theorem dX1_init_23 : decode cX1_init 23 = .ok (.sipush 301, 3) := by decide +kernel
theorem dX1_init_26 : decode cX1_init 26 = .ok (.newarray .int, 2) := by decide +kernel
theorem dX1_init_28 : decode cX1_init 28 = .ok (.putfield 16, 3) := by decide +kernel
theorem dX1_init_31 : decode cX1_init 31 = .ok (.aload_n 0, 1) := by decide +kernel
theorem dX1_init_32 : decode cX1_init 32 = .ok (.sipush 12040, 3) := by decide +kernel
theorem dX1_init_35 : decode cX1_init 35 = .ok (.newarray .int, 2) := by decide +kernel
theorem dX1_init_37 : decode cX1_init 37 = .ok (.putfield 19, 3) := by decide +kernel
theorem dX1_init_40 : decode cX1_init 40 = .ok (.aload_n 0, 1) := by decide +kernel
theorem dX1_init_41 : decode cX1_init 41 = .ok (.sipush 12040, 3) := by decide +kernel
theorem dX1_init_44 : decode cX1_init 44 = .ok (.newarray .long, 2) := by decide +kernel
theorem dX1_init_46 : decode cX1_init 46 = .ok (.putfield 22, 3) := by decide +kernel
theorem dX1_init_49 : decode cX1_init 49 = .ok (.aload_n 0, 1) := by decide +kernel
theorem dX1_init_50 : decode cX1_init 50 = .ok (.sipush 301, 3) := by decide +kernel
theorem dX1_init_53 : decode cX1_init 53 = .ok (.newarray .boolean, 2) := by decide +kernel
theorem dX1_init_55 : decode cX1_init 55 = .ok (.putfield 26, 3) := by decide +kernel
theorem dX1_init_58 : decode cX1_init 58 = .ok (.aload_n 0, 1) := by decide +kernel
theorem dX1_init_59 : decode cX1_init 59 = .ok (.bipush 16, 2) := by decide +kernel
theorem dX1_init_61 : decode cX1_init 61 = .ok (.newarray .int, 2) := by decide +kernel
theorem dX1_init_63 : decode cX1_init 63 = .ok (.putfield 30, 3) := by decide +kernel
theorem dX1_init_66 : decode cX1_init 66 = .ok (.aload_n 0, 1) := by decide +kernel
theorem dX1_init_67 : decode cX1_init 67 = .ok (.sipush 301, 3) := by decide +kernel
theorem dX1_init_70 : decode cX1_init 70 = .ok (.newarray .int, 2) := by decide +kernel
theorem dX1_init_72 : decode cX1_init 72 = .ok (.putfield 33, 3) := by decide +kernel
theorem dX1_init_75 : decode cX1_init 75 = .ok (.return_, 1) := by decide +kernel
theorem dX1_thrown_0 : decode cX1_thrown 0 = .ok (.aload_n 0, 1) := by decide +kernel
theorem dX1_thrown_1 : decode cX1_thrown 1 = .ok (.getfield 36, 3) := by decide +kernel
theorem dX1_thrown_4 : decode cX1_thrown 4 = .ok (.ireturn, 1) := by decide +kernel
theorem dX1_isRegister_0 : decode cX1_isRegister 0 = .ok (.iload_n 1, 1) := by decide +kernel
theorem dX1_isRegister_1 : decode cX1_isRegister 1 = .ok (.ifCond .lt 13, 3) := by decide +kernel
theorem dX1_isRegister_4 : decode cX1_isRegister 4 = .ok (.iload_n 1, 1) := by decide +kernel
theorem dX1_isRegister_5 : decode cX1_isRegister 5 = .ok (.bipush 16, 2) := by decide +kernel
theorem dX1_isRegister_7 : decode cX1_isRegister 7 = .ok (.if_icmp .ge 7, 3) := by decide +kernel
theorem dX1_isRegister_10 : decode cX1_isRegister 10 = .ok (.iconst 1, 1) := by decide +kernel
theorem dX1_isRegister_11 : decode cX1_isRegister 11 = .ok (.goto 4, 3) := by decide +kernel
theorem dX1_isRegister_14 : decode cX1_isRegister 14 = .ok (.iconst 0, 1) := by decide +kernel
theorem dX1_isRegister_15 : decode cX1_isRegister 15 = .ok (.ireturn, 1) := by decide +kernel
theorem dX1_cellsOf_0 : decode cX1_cellsOf 0 = .ok (.iconst 1, 1) := by decide +kernel
theorem dX1_cellsOf_1 : decode cX1_cellsOf 1 = .ok (.aload_n 0, 1) := by decide +kernel
theorem dX1_cellsOf_2 : decode cX1_cellsOf 2 = .ok (.getfield 7, 3) := by decide +kernel
theorem dX1_cellsOf_5 : decode cX1_cellsOf 5 = .ok (.iload_n 1, 1) := by decide +kernel
theorem dX1_cellsOf_6 : decode cX1_cellsOf 6 = .ok (.iaload, 1) := by decide +kernel
theorem dX1_cellsOf_7 : decode cX1_cellsOf 7 = .ok (.iconst 3, 1) := by decide +kernel
theorem dX1_cellsOf_8 : decode cX1_cellsOf 8 = .ok (.if_icmp .ne 7, 3) := by decide +kernel
theorem dX1_cellsOf_11 : decode cX1_cellsOf 11 = .ok (.iconst 1, 1) := by decide +kernel
theorem dX1_cellsOf_12 : decode cX1_cellsOf 12 = .ok (.goto 9, 3) := by decide +kernel
theorem dX1_cellsOf_15 : decode cX1_cellsOf 15 = .ok (.aload_n 0, 1) := by decide +kernel
theorem dX1_cellsOf_16 : decode cX1_cellsOf 16 = .ok (.getfield 13, 3) := by decide +kernel
theorem dX1_cellsOf_19 : decode cX1_cellsOf 19 = .ok (.iload_n 1, 1) := by decide +kernel
theorem dX1_cellsOf_20 : decode cX1_cellsOf 20 = .ok (.iaload, 1) := by decide +kernel
theorem dX1_cellsOf_21 : decode cX1_cellsOf 21 = .ok (.iadd, 1) := by decide +kernel
theorem dX1_cellsOf_22 : decode cX1_cellsOf 22 = .ok (.ireturn, 1) := by decide +kernel
theorem dX1_cells_0 : decode cX1_cells 0 = .ok (.iconst 0, 1) := by decide +kernel
theorem dX1_cells_1 : decode cX1_cells 1 = .ok (.istore_n 1, 1) := by decide +kernel
theorem dX1_cells_2 : decode cX1_cells 2 = .ok (.iconst 0, 1) := by decide +kernel
theorem dX1_cells_3 : decode cX1_cells 3 = .ok (.istore_n 2, 1) := by decide +kernel
theorem dX1_cells_4 : decode cX1_cells 4 = .ok (.iload_n 2, 1) := by decide +kernel
theorem dX1_cells_5 : decode cX1_cells 5 = .ok (.aload_n 0, 1) := by decide +kernel
theorem dX1_cells_6 : decode cX1_cells 6 = .ok (.getfield 40, 3) := by decide +kernel
theorem dX1_cells_9 : decode cX1_cells 9 = .ok (.if_icmp .ge 22, 3) := by decide +kernel
theorem dX1_cells_12 : decode cX1_cells 12 = .ok (.iload_n 1, 1) := by decide +kernel
theorem dX1_cells_13 : decode cX1_cells 13 = .ok (.aload_n 0, 1) := by decide +kernel
theorem dX1_cells_14 : decode cX1_cells 14 = .ok (.aload_n 0, 1) := by decide +kernel
theorem dX1_cells_15 : decode cX1_cells 15 = .ok (.getfield 16, 3) := by decide +kernel
theorem dX1_cells_18 : decode cX1_cells 18 = .ok (.iload_n 2, 1) := by decide +kernel
theorem dX1_cells_19 : decode cX1_cells 19 = .ok (.iaload, 1) := by decide +kernel
theorem dX1_cells_20 : decode cX1_cells 20 = .ok (.invokevirtual 43, 3) := by decide +kernel
theorem dX1_cells_23 : decode cX1_cells 23 = .ok (.iadd, 1) := by decide +kernel
theorem dX1_cells_24 : decode cX1_cells 24 = .ok (.istore_n 1, 1) := by decide +kernel
theorem dX1_cells_25 : decode cX1_cells 25 = .ok (.iinc 2 1, 3) := by decide +kernel
theorem dX1_cells_28 : decode cX1_cells 28 = .ok (.goto (-24), 3) := by decide +kernel
theorem dX1_cells_31 : decode cX1_cells 31 = .ok (.iload_n 1, 1) := by decide +kernel
theorem dX1_cells_32 : decode cX1_cells 32 = .ok (.ireturn, 1) := by decide +kernel
theorem dX1_placeOf_0 : decode cX1_placeOf 0 = .ok (.iconst 0, 1) := by decide +kernel
theorem dX1_placeOf_1 : decode cX1_placeOf 1 = .ok (.istore_n 2, 1) := by decide +kernel
theorem dX1_placeOf_2 : decode cX1_placeOf 2 = .ok (.iconst 0, 1) := by decide +kernel
theorem dX1_placeOf_3 : decode cX1_placeOf 3 = .ok (.istore_n 3, 1) := by decide +kernel
theorem dX1_placeOf_4 : decode cX1_placeOf 4 = .ok (.aload_n 0, 1) := by decide +kernel
theorem dX1_placeOf_5 : decode cX1_placeOf 5 = .ok (.getfield 16, 3) := by decide +kernel
theorem dX1_placeOf_8 : decode cX1_placeOf 8 = .ok (.iload_n 3, 1) := by decide +kernel
theorem dX1_placeOf_9 : decode cX1_placeOf 9 = .ok (.iaload, 1) := by decide +kernel
theorem dX1_placeOf_10 : decode cX1_placeOf 10 = .ok (.iload_n 1, 1) := by decide +kernel
theorem dX1_placeOf_11 : decode cX1_placeOf 11 = .ok (.if_icmp .eq 22, 3) := by decide +kernel
theorem dX1_placeOf_14 : decode cX1_placeOf 14 = .ok (.iload_n 2, 1) := by decide +kernel
theorem dX1_placeOf_15 : decode cX1_placeOf 15 = .ok (.aload_n 0, 1) := by decide +kernel
theorem dX1_placeOf_16 : decode cX1_placeOf 16 = .ok (.aload_n 0, 1) := by decide +kernel
theorem dX1_placeOf_17 : decode cX1_placeOf 17 = .ok (.getfield 16, 3) := by decide +kernel
theorem dX1_placeOf_20 : decode cX1_placeOf 20 = .ok (.iload_n 3, 1) := by decide +kernel
theorem dX1_placeOf_21 : decode cX1_placeOf 21 = .ok (.iaload, 1) := by decide +kernel
theorem dX1_placeOf_22 : decode cX1_placeOf 22 = .ok (.invokevirtual 43, 3) := by decide +kernel
theorem dX1_placeOf_25 : decode cX1_placeOf 25 = .ok (.iadd, 1) := by decide +kernel
theorem dX1_placeOf_26 : decode cX1_placeOf 26 = .ok (.istore_n 2, 1) := by decide +kernel
theorem dX1_placeOf_27 : decode cX1_placeOf 27 = .ok (.iinc 3 1, 3) := by decide +kernel
theorem dX1_placeOf_30 : decode cX1_placeOf 30 = .ok (.goto (-26), 3) := by decide +kernel
theorem dX1_placeOf_33 : decode cX1_placeOf 33 = .ok (.iload_n 2, 1) := by decide +kernel
theorem dX1_placeOf_34 : decode cX1_placeOf 34 = .ok (.ireturn, 1) := by decide +kernel
theorem dX1_reach_0 : decode cX1_reach 0 = .ok (.iload_n 1, 1) := by decide +kernel
theorem dX1_reach_1 : decode cX1_reach 1 = .ok (.ifCond .eq 12, 3) := by decide +kernel
theorem dX1_reach_4 : decode cX1_reach 4 = .ok (.aload_n 0, 1) := by decide +kernel
theorem dX1_reach_5 : decode cX1_reach 5 = .ok (.getfield 26, 3) := by decide +kernel
theorem dX1_reach_8 : decode cX1_reach 8 = .ok (.iload_n 1, 1) := by decide +kernel
theorem dX1_reach_9 : decode cX1_reach 9 = .ok (.baload, 1) := by decide +kernel
theorem dX1_reach_10 : decode cX1_reach 10 = .ok (.ifCond .eq 4, 3) := by decide +kernel
theorem dX1_reach_13 : decode cX1_reach 13 = .ok (.return_, 1) := by decide +kernel
theorem dX1_reach_14 : decode cX1_reach 14 = .ok (.aload_n 0, 1) := by decide +kernel
theorem dX1_reach_15 : decode cX1_reach 15 = .ok (.getfield 26, 3) := by decide +kernel
theorem dX1_reach_18 : decode cX1_reach 18 = .ok (.iload_n 1, 1) := by decide +kernel
theorem dX1_reach_19 : decode cX1_reach 19 = .ok (.iconst 1, 1) := by decide +kernel
theorem dX1_reach_20 : decode cX1_reach 20 = .ok (.bastore, 1) := by decide +kernel
theorem dX1_reach_21 : decode cX1_reach 21 = .ok (.aload_n 0, 1) := by decide +kernel
theorem dX1_reach_22 : decode cX1_reach 22 = .ok (.getfield 33, 3) := by decide +kernel
theorem dX1_reach_25 : decode cX1_reach 25 = .ok (.aload_n 0, 1) := by decide +kernel
theorem dX1_reach_26 : decode cX1_reach 26 = .ok (.getfield 47, 3) := by decide +kernel
theorem dX1_reach_29 : decode cX1_reach 29 = .ok (.iload_n 1, 1) := by decide +kernel
theorem dX1_reach_30 : decode cX1_reach 30 = .ok (.iastore, 1) := by decide +kernel
theorem dX1_reach_31 : decode cX1_reach 31 = .ok (.aload_n 0, 1) := by decide +kernel
theorem dX1_reach_32 : decode cX1_reach 32 = .ok (.dup, 1) := by decide +kernel
theorem dX1_reach_33 : decode cX1_reach 33 = .ok (.getfield 47, 3) := by decide +kernel
theorem dX1_reach_36 : decode cX1_reach 36 = .ok (.iconst 1, 1) := by decide +kernel
theorem dX1_reach_37 : decode cX1_reach 37 = .ok (.iadd, 1) := by decide +kernel
theorem dX1_reach_38 : decode cX1_reach 38 = .ok (.putfield 47, 3) := by decide +kernel
theorem dX1_reach_41 : decode cX1_reach 41 = .ok (.return_, 1) := by decide +kernel
theorem dX1_collect_0 : decode cX1_collect 0 = .ok (.aload_n 0, 1) := by decide +kernel
theorem dX1_collect_1 : decode cX1_collect 1 = .ok (.iconst 0, 1) := by decide +kernel
theorem dX1_collect_2 : decode cX1_collect 2 = .ok (.putfield 36, 3) := by decide +kernel
theorem dX1_collect_5 : decode cX1_collect 5 = .ok (.aload_n 0, 1) := by decide +kernel
theorem dX1_collect_6 : decode cX1_collect 6 = .ok (.dup, 1) := by decide +kernel
theorem dX1_collect_7 : decode cX1_collect 7 = .ok (.getfield 50, 3) := by decide +kernel
theorem dX1_collect_10 : decode cX1_collect 10 = .ok (.iconst 1, 1) := by decide +kernel
theorem dX1_collect_11 : decode cX1_collect 11 = .ok (.iadd, 1) := by decide +kernel
theorem dX1_collect_12 : decode cX1_collect 12 = .ok (.putfield 50, 3) := by decide +kernel
theorem dX1_collect_15 : decode cX1_collect 15 = .ok (.iconst 0, 1) := by decide +kernel
theorem dX1_collect_16 : decode cX1_collect 16 = .ok (.istore_n 1, 1) := by decide +kernel
theorem dX1_collect_17 : decode cX1_collect 17 = .ok (.iload_n 1, 1) := by decide +kernel
theorem dX1_collect_18 : decode cX1_collect 18 = .ok (.sipush 300, 3) := by decide +kernel
theorem dX1_collect_21 : decode cX1_collect 21 = .ok (.if_icmp .gt 16, 3) := by decide +kernel
theorem dX1_collect_24 : decode cX1_collect 24 = .ok (.aload_n 0, 1) := by decide +kernel
theorem dX1_collect_25 : decode cX1_collect 25 = .ok (.getfield 26, 3) := by decide +kernel
theorem dX1_collect_28 : decode cX1_collect 28 = .ok (.iload_n 1, 1) := by decide +kernel
theorem dX1_collect_29 : decode cX1_collect 29 = .ok (.iconst 0, 1) := by decide +kernel
theorem dX1_collect_30 : decode cX1_collect 30 = .ok (.bastore, 1) := by decide +kernel
theorem dX1_collect_31 : decode cX1_collect 31 = .ok (.iinc 1 1, 3) := by decide +kernel
theorem dX1_collect_34 : decode cX1_collect 34 = .ok (.goto (-17), 3) := by decide +kernel
theorem dX1_collect_37 : decode cX1_collect 37 = .ok (.aload_n 0, 1) := by decide +kernel
theorem dX1_collect_38 : decode cX1_collect 38 = .ok (.iconst 0, 1) := by decide +kernel
theorem dX1_collect_39 : decode cX1_collect 39 = .ok (.putfield 47, 3) := by decide +kernel
theorem dX1_collect_42 : decode cX1_collect 42 = .ok (.iconst 0, 1) := by decide +kernel
theorem dX1_collect_43 : decode cX1_collect 43 = .ok (.istore_n 1, 1) := by decide +kernel
theorem dX1_collect_44 : decode cX1_collect 44 = .ok (.iload_n 1, 1) := by decide +kernel
theorem dX1_collect_45 : decode cX1_collect 45 = .ok (.bipush 16, 2) := by decide +kernel
theorem dX1_collect_47 : decode cX1_collect 47 = .ok (.if_icmp .ge 19, 3) := by decide +kernel
theorem dX1_collect_50 : decode cX1_collect 50 = .ok (.aload_n 0, 1) := by decide +kernel
theorem dX1_collect_51 : decode cX1_collect 51 = .ok (.aload_n 0, 1) := by decide +kernel
theorem dX1_collect_52 : decode cX1_collect 52 = .ok (.getfield 30, 3) := by decide +kernel
theorem dX1_collect_55 : decode cX1_collect 55 = .ok (.iload_n 1, 1) := by decide +kernel
theorem dX1_collect_56 : decode cX1_collect 56 = .ok (.iaload, 1) := by decide +kernel
theorem dX1_collect_57 : decode cX1_collect 57 = .ok (.invokevirtual 53, 3) := by decide +kernel
theorem dX1_collect_60 : decode cX1_collect 60 = .ok (.iinc 1 1, 3) := by decide +kernel
theorem dX1_collect_63 : decode cX1_collect 63 = .ok (.goto (-19), 3) := by decide +kernel
theorem dX1_collect_66 : decode cX1_collect 66 = .ok (.aload_n 0, 1) := by decide +kernel
theorem dX1_collect_67 : decode cX1_collect 67 = .ok (.getfield 47, 3) := by decide +kernel
theorem dX1_collect_70 : decode cX1_collect 70 = .ok (.ifCond .le 69, 3) := by decide +kernel
theorem dX1_collect_73 : decode cX1_collect 73 = .ok (.aload_n 0, 1) := by decide +kernel
theorem dX1_collect_74 : decode cX1_collect 74 = .ok (.dup, 1) := by decide +kernel
theorem dX1_collect_75 : decode cX1_collect 75 = .ok (.getfield 47, 3) := by decide +kernel
theorem dX1_collect_78 : decode cX1_collect 78 = .ok (.iconst 1, 1) := by decide +kernel
theorem dX1_collect_79 : decode cX1_collect 79 = .ok (.isub, 1) := by decide +kernel
theorem dX1_collect_80 : decode cX1_collect 80 = .ok (.putfield 47, 3) := by decide +kernel
theorem dX1_collect_83 : decode cX1_collect 83 = .ok (.aload_n 0, 1) := by decide +kernel
theorem dX1_collect_84 : decode cX1_collect 84 = .ok (.getfield 33, 3) := by decide +kernel
theorem dX1_collect_87 : decode cX1_collect 87 = .ok (.aload_n 0, 1) := by decide +kernel
theorem dX1_collect_88 : decode cX1_collect 88 = .ok (.getfield 47, 3) := by decide +kernel
theorem dX1_collect_91 : decode cX1_collect 91 = .ok (.iaload, 1) := by decide +kernel
theorem dX1_collect_92 : decode cX1_collect 92 = .ok (.istore_n 1, 1) := by decide +kernel
theorem dX1_collect_93 : decode cX1_collect 93 = .ok (.iconst 0, 1) := by decide +kernel
theorem dX1_collect_94 : decode cX1_collect 94 = .ok (.istore_n 2, 1) := by decide +kernel
theorem dX1_collect_95 : decode cX1_collect 95 = .ok (.aload_n 0, 1) := by decide +kernel
theorem dX1_collect_96 : decode cX1_collect 96 = .ok (.getfield 7, 3) := by decide +kernel
theorem dX1_collect_99 : decode cX1_collect 99 = .ok (.iload_n 1, 1) := by decide +kernel
theorem dX1_collect_100 : decode cX1_collect 100 = .ok (.iaload, 1) := by decide +kernel
theorem dX1_collect_101 : decode cX1_collect 101 = .ok (.iconst 1, 1) := by decide +kernel
theorem dX1_collect_102 : decode cX1_collect 102 = .ok (.if_icmp .ne 34, 3) := by decide +kernel
theorem dX1_collect_105 : decode cX1_collect 105 = .ok (.iload_n 2, 1) := by decide +kernel
theorem dX1_collect_106 : decode cX1_collect 106 = .ok (.aload_n 0, 1) := by decide +kernel
theorem dX1_collect_107 : decode cX1_collect 107 = .ok (.getfield 13, 3) := by decide +kernel
theorem dX1_collect_110 : decode cX1_collect 110 = .ok (.iload_n 1, 1) := by decide +kernel
theorem dX1_collect_111 : decode cX1_collect 111 = .ok (.iaload, 1) := by decide +kernel
theorem dX1_collect_112 : decode cX1_collect 112 = .ok (.if_icmp .ge 24, 3) := by decide +kernel
theorem dX1_collect_115 : decode cX1_collect 115 = .ok (.aload_n 0, 1) := by decide +kernel
theorem dX1_collect_116 : decode cX1_collect 116 = .ok (.aload_n 0, 1) := by decide +kernel
theorem dX1_collect_117 : decode cX1_collect 117 = .ok (.getfield 19, 3) := by decide +kernel
theorem dX1_collect_120 : decode cX1_collect 120 = .ok (.bipush 40, 2) := by decide +kernel
theorem dX1_collect_122 : decode cX1_collect 122 = .ok (.iload_n 1, 1) := by decide +kernel
theorem dX1_collect_123 : decode cX1_collect 123 = .ok (.imul, 1) := by decide +kernel
theorem dX1_collect_124 : decode cX1_collect 124 = .ok (.iload_n 2, 1) := by decide +kernel
theorem dX1_collect_125 : decode cX1_collect 125 = .ok (.iadd, 1) := by decide +kernel
theorem dX1_collect_126 : decode cX1_collect 126 = .ok (.iaload, 1) := by decide +kernel
theorem dX1_collect_127 : decode cX1_collect 127 = .ok (.invokevirtual 53, 3) := by decide +kernel
theorem dX1_collect_130 : decode cX1_collect 130 = .ok (.iinc 2 1, 3) := by decide +kernel
theorem dX1_collect_133 : decode cX1_collect 133 = .ok (.goto (-38), 3) := by decide +kernel
theorem dX1_collect_136 : decode cX1_collect 136 = .ok (.goto (-70), 3) := by decide +kernel
theorem dX1_collect_139 : decode cX1_collect 139 = .ok (.iconst 0, 1) := by decide +kernel
theorem dX1_collect_140 : decode cX1_collect 140 = .ok (.istore_n 1, 1) := by decide +kernel
theorem dX1_collect_141 : decode cX1_collect 141 = .ok (.iconst 0, 1) := by decide +kernel
theorem dX1_collect_142 : decode cX1_collect 142 = .ok (.istore_n 2, 1) := by decide +kernel
theorem dX1_collect_143 : decode cX1_collect 143 = .ok (.iconst 0, 1) := by decide +kernel
theorem dX1_collect_144 : decode cX1_collect 144 = .ok (.istore_n 3, 1) := by decide +kernel
theorem dX1_collect_145 : decode cX1_collect 145 = .ok (.iload_n 3, 1) := by decide +kernel
theorem dX1_collect_146 : decode cX1_collect 146 = .ok (.aload_n 0, 1) := by decide +kernel
theorem dX1_collect_147 : decode cX1_collect 147 = .ok (.getfield 40, 3) := by decide +kernel
theorem dX1_collect_150 : decode cX1_collect 150 = .ok (.if_icmp .ge 92, 3) := by decide +kernel
theorem dX1_collect_153 : decode cX1_collect 153 = .ok (.aload_n 0, 1) := by decide +kernel
theorem dX1_collect_154 : decode cX1_collect 154 = .ok (.getfield 16, 3) := by decide +kernel
theorem dX1_collect_157 : decode cX1_collect 157 = .ok (.iload_n 3, 1) := by decide +kernel
theorem dX1_collect_158 : decode cX1_collect 158 = .ok (.iaload, 1) := by decide +kernel
theorem dX1_collect_159 : decode cX1_collect 159 = .ok (.istore 4, 2) := by decide +kernel
theorem dX1_collect_161 : decode cX1_collect 161 = .ok (.aload_n 0, 1) := by decide +kernel
theorem dX1_collect_162 : decode cX1_collect 162 = .ok (.getfield 26, 3) := by decide +kernel
theorem dX1_collect_165 : decode cX1_collect 165 = .ok (.iload 4, 2) := by decide +kernel
theorem dX1_collect_167 : decode cX1_collect 167 = .ok (.baload, 1) := by decide +kernel
theorem dX1_collect_168 : decode cX1_collect 168 = .ok (.ifCond .ne 17, 3) := by decide +kernel
theorem dX1_collect_171 : decode cX1_collect 171 = .ok (.aload_n 0, 1) := by decide +kernel
theorem dX1_collect_172 : decode cX1_collect 172 = .ok (.getfield 7, 3) := by decide +kernel
theorem dX1_collect_175 : decode cX1_collect 175 = .ok (.iload 4, 2) := by decide +kernel
theorem dX1_collect_177 : decode cX1_collect 177 = .ok (.iconst 0, 1) := by decide +kernel
theorem dX1_collect_178 : decode cX1_collect 178 = .ok (.iastore, 1) := by decide +kernel
theorem dX1_collect_179 : decode cX1_collect 179 = .ok (.iinc 2 1, 3) := by decide +kernel
theorem dX1_collect_182 : decode cX1_collect 182 = .ok (.goto 54, 3) := by decide +kernel
theorem dX1_collect_185 : decode cX1_collect 185 = .ok (.aload_n 0, 1) := by decide +kernel
theorem dX1_collect_186 : decode cX1_collect 186 = .ok (.getfield 7, 3) := by decide +kernel
theorem dX1_collect_189 : decode cX1_collect 189 = .ok (.iload 4, 2) := by decide +kernel
theorem dX1_collect_191 : decode cX1_collect 191 = .ok (.iaload, 1) := by decide +kernel
theorem dX1_collect_192 : decode cX1_collect 192 = .ok (.iconst 3, 1) := by decide +kernel
theorem dX1_collect_193 : decode cX1_collect 193 = .ok (.if_icmp .ne 32, 3) := by decide +kernel
theorem dX1_collect_196 : decode cX1_collect 196 = .ok (.aload_n 0, 1) := by decide +kernel
theorem dX1_collect_197 : decode cX1_collect 197 = .ok (.getfield 26, 3) := by decide +kernel
theorem dX1_collect_200 : decode cX1_collect 200 = .ok (.aload_n 0, 1) := by decide +kernel
theorem dX1_collect_201 : decode cX1_collect 201 = .ok (.getfield 19, 3) := by decide +kernel
theorem dX1_collect_204 : decode cX1_collect 204 = .ok (.bipush 40, 2) := by decide +kernel
theorem dX1_collect_206 : decode cX1_collect 206 = .ok (.iload 4, 2) := by decide +kernel
theorem dX1_collect_208 : decode cX1_collect 208 = .ok (.imul, 1) := by decide +kernel
theorem dX1_collect_209 : decode cX1_collect 209 = .ok (.iaload, 1) := by decide +kernel
theorem dX1_collect_210 : decode cX1_collect 210 = .ok (.baload, 1) := by decide +kernel
theorem dX1_collect_211 : decode cX1_collect 211 = .ok (.ifCond .ne 14, 3) := by decide +kernel
theorem dX1_collect_214 : decode cX1_collect 214 = .ok (.aload_n 0, 1) := by decide +kernel
theorem dX1_collect_215 : decode cX1_collect 215 = .ok (.getfield 19, 3) := by decide +kernel
theorem dX1_collect_218 : decode cX1_collect 218 = .ok (.bipush 40, 2) := by decide +kernel
theorem dX1_collect_220 : decode cX1_collect 220 = .ok (.iload 4, 2) := by decide +kernel
theorem dX1_collect_222 : decode cX1_collect 222 = .ok (.imul, 1) := by decide +kernel
theorem dX1_collect_223 : decode cX1_collect 223 = .ok (.iconst 0, 1) := by decide +kernel
theorem dX1_collect_224 : decode cX1_collect 224 = .ok (.iastore, 1) := by decide +kernel
theorem dX1_collect_225 : decode cX1_collect 225 = .ok (.aload_n 0, 1) := by decide +kernel
theorem dX1_collect_226 : decode cX1_collect 226 = .ok (.getfield 16, 3) := by decide +kernel
theorem dX1_collect_229 : decode cX1_collect 229 = .ok (.iload_n 1, 1) := by decide +kernel
theorem dX1_collect_230 : decode cX1_collect 230 = .ok (.iload 4, 2) := by decide +kernel
theorem dX1_collect_232 : decode cX1_collect 232 = .ok (.iastore, 1) := by decide +kernel
theorem dX1_collect_233 : decode cX1_collect 233 = .ok (.iinc 1 1, 3) := by decide +kernel
theorem dX1_collect_236 : decode cX1_collect 236 = .ok (.iinc 3 1, 3) := by decide +kernel
theorem dX1_collect_239 : decode cX1_collect 239 = .ok (.goto (-94), 3) := by decide +kernel
theorem dX1_collect_242 : decode cX1_collect 242 = .ok (.aload_n 0, 1) := by decide +kernel
theorem dX1_collect_243 : decode cX1_collect 243 = .ok (.iload_n 1, 1) := by decide +kernel
theorem dX1_collect_244 : decode cX1_collect 244 = .ok (.putfield 40, 3) := by decide +kernel
theorem dX1_collect_247 : decode cX1_collect 247 = .ok (.iload_n 2, 1) := by decide +kernel
theorem dX1_collect_248 : decode cX1_collect 248 = .ok (.ireturn, 1) := by decide +kernel
theorem dX1_made_0 : decode cX1_made 0 = .ok (.iconst 1, 1) := by decide +kernel
theorem dX1_made_1 : decode cX1_made 1 = .ok (.iload_n 1, 1) := by decide +kernel
theorem dX1_made_2 : decode cX1_made 2 = .ok (.iconst 3, 1) := by decide +kernel
theorem dX1_made_3 : decode cX1_made 3 = .ok (.if_icmp .ne 7, 3) := by decide +kernel
theorem dX1_made_6 : decode cX1_made 6 = .ok (.iconst 1, 1) := by decide +kernel
theorem dX1_made_7 : decode cX1_made 7 = .ok (.goto 4, 3) := by decide +kernel
theorem dX1_made_10 : decode cX1_made 10 = .ok (.iload_n 2, 1) := by decide +kernel
theorem dX1_made_11 : decode cX1_made 11 = .ok (.iadd, 1) := by decide +kernel
theorem dX1_made_12 : decode cX1_made 12 = .ok (.istore_n 3, 1) := by decide +kernel
theorem dX1_made_13 : decode cX1_made 13 = .ok (.aload_n 0, 1) := by decide +kernel
theorem dX1_made_14 : decode cX1_made 14 = .ok (.invokevirtual 57, 3) := by decide +kernel
theorem dX1_made_17 : decode cX1_made 17 = .ok (.iload_n 3, 1) := by decide +kernel
theorem dX1_made_18 : decode cX1_made 18 = .ok (.iadd, 1) := by decide +kernel
theorem dX1_made_19 : decode cX1_made 19 = .ok (.sipush 300, 3) := by decide +kernel
theorem dX1_made_22 : decode cX1_made 22 = .ok (.if_icmp .le 9, 3) := by decide +kernel
theorem dX1_made_25 : decode cX1_made 25 = .ok (.aload_n 0, 1) := by decide +kernel
theorem dX1_made_26 : decode cX1_made 26 = .ok (.invokevirtual 61, 3) := by decide +kernel
theorem dX1_made_29 : decode cX1_made 29 = .ok (.istore 4, 2) := by decide +kernel
theorem dX1_made_31 : decode cX1_made 31 = .ok (.aload_n 0, 1) := by decide +kernel
theorem dX1_made_32 : decode cX1_made 32 = .ok (.invokevirtual 57, 3) := by decide +kernel
theorem dX1_made_35 : decode cX1_made 35 = .ok (.iload_n 3, 1) := by decide +kernel
theorem dX1_made_36 : decode cX1_made 36 = .ok (.iadd, 1) := by decide +kernel
theorem dX1_made_37 : decode cX1_made 37 = .ok (.sipush 300, 3) := by decide +kernel
theorem dX1_made_40 : decode cX1_made 40 = .ok (.if_icmp .le 5, 3) := by decide +kernel
theorem dX1_made_43 : decode cX1_made 43 = .ok (.iconst 0, 1) := by decide +kernel
theorem dX1_made_44 : decode cX1_made 44 = .ok (.ireturn, 1) := by decide +kernel
theorem dX1_made_45 : decode cX1_made 45 = .ok (.iconst 1, 1) := by decide +kernel
theorem dX1_made_46 : decode cX1_made 46 = .ok (.istore 4, 2) := by decide +kernel
theorem dX1_made_48 : decode cX1_made 48 = .ok (.aload_n 0, 1) := by decide +kernel
theorem dX1_made_49 : decode cX1_made 49 = .ok (.getfield 7, 3) := by decide +kernel
theorem dX1_made_52 : decode cX1_made 52 = .ok (.iload 4, 2) := by decide +kernel
theorem dX1_made_54 : decode cX1_made 54 = .ok (.iaload, 1) := by decide +kernel
theorem dX1_made_55 : decode cX1_made 55 = .ok (.ifCond .eq 9, 3) := by decide +kernel
theorem dX1_made_58 : decode cX1_made 58 = .ok (.iinc 4 1, 3) := by decide +kernel
theorem dX1_made_61 : decode cX1_made 61 = .ok (.goto (-13), 3) := by decide +kernel
theorem dX1_made_64 : decode cX1_made 64 = .ok (.aload_n 0, 1) := by decide +kernel
theorem dX1_made_65 : decode cX1_made 65 = .ok (.getfield 7, 3) := by decide +kernel
theorem dX1_made_68 : decode cX1_made 68 = .ok (.iload 4, 2) := by decide +kernel
theorem dX1_made_70 : decode cX1_made 70 = .ok (.iload_n 1, 1) := by decide +kernel
theorem dX1_made_71 : decode cX1_made 71 = .ok (.iastore, 1) := by decide +kernel
theorem dX1_made_72 : decode cX1_made 72 = .ok (.aload_n 0, 1) := by decide +kernel
theorem dX1_made_73 : decode cX1_made 73 = .ok (.getfield 13, 3) := by decide +kernel
theorem dX1_made_76 : decode cX1_made 76 = .ok (.iload 4, 2) := by decide +kernel
theorem dX1_made_78 : decode cX1_made 78 = .ok (.iload_n 2, 1) := by decide +kernel
theorem dX1_made_79 : decode cX1_made 79 = .ok (.iastore, 1) := by decide +kernel
theorem dX1_made_80 : decode cX1_made 80 = .ok (.iconst 0, 1) := by decide +kernel
theorem dX1_made_81 : decode cX1_made 81 = .ok (.istore 5, 2) := by decide +kernel
theorem dX1_made_83 : decode cX1_made 83 = .ok (.iload 5, 2) := by decide +kernel
theorem dX1_made_85 : decode cX1_made 85 = .ok (.bipush 40, 2) := by decide +kernel
theorem dX1_made_87 : decode cX1_made 87 = .ok (.if_icmp .ge 37, 3) := by decide +kernel
theorem dX1_made_90 : decode cX1_made 90 = .ok (.aload_n 0, 1) := by decide +kernel
theorem dX1_made_91 : decode cX1_made 91 = .ok (.getfield 19, 3) := by decide +kernel
theorem dX1_made_94 : decode cX1_made 94 = .ok (.bipush 40, 2) := by decide +kernel
theorem dX1_made_96 : decode cX1_made 96 = .ok (.iload 4, 2) := by decide +kernel
theorem dX1_made_98 : decode cX1_made 98 = .ok (.imul, 1) := by decide +kernel
theorem dX1_made_99 : decode cX1_made 99 = .ok (.iload 5, 2) := by decide +kernel
theorem dX1_made_101 : decode cX1_made 101 = .ok (.iadd, 1) := by decide +kernel
theorem dX1_made_102 : decode cX1_made 102 = .ok (.iconst 0, 1) := by decide +kernel
theorem dX1_made_103 : decode cX1_made 103 = .ok (.iastore, 1) := by decide +kernel
theorem dX1_made_104 : decode cX1_made 104 = .ok (.aload_n 0, 1) := by decide +kernel
theorem dX1_made_105 : decode cX1_made 105 = .ok (.getfield 22, 3) := by decide +kernel
theorem dX1_made_108 : decode cX1_made 108 = .ok (.bipush 40, 2) := by decide +kernel
theorem dX1_made_110 : decode cX1_made 110 = .ok (.iload 4, 2) := by decide +kernel
theorem dX1_made_112 : decode cX1_made 112 = .ok (.imul, 1) := by decide +kernel
theorem dX1_made_113 : decode cX1_made 113 = .ok (.iload 5, 2) := by decide +kernel
theorem dX1_made_115 : decode cX1_made 115 = .ok (.iadd, 1) := by decide +kernel
theorem dX1_made_116 : decode cX1_made 116 = .ok (.lconst 0, 1) := by decide +kernel
theorem dX1_made_117 : decode cX1_made 117 = .ok (.lastore, 1) := by decide +kernel
theorem dX1_made_118 : decode cX1_made 118 = .ok (.iinc 5 1, 3) := by decide +kernel
theorem dX1_made_121 : decode cX1_made 121 = .ok (.goto (-38), 3) := by decide +kernel
theorem dX1_made_124 : decode cX1_made 124 = .ok (.aload_n 0, 1) := by decide +kernel
theorem dX1_made_125 : decode cX1_made 125 = .ok (.getfield 16, 3) := by decide +kernel
theorem dX1_made_128 : decode cX1_made 128 = .ok (.aload_n 0, 1) := by decide +kernel
theorem dX1_made_129 : decode cX1_made 129 = .ok (.getfield 40, 3) := by decide +kernel
theorem dX1_made_132 : decode cX1_made 132 = .ok (.iload 4, 2) := by decide +kernel
theorem dX1_made_134 : decode cX1_made 134 = .ok (.iastore, 1) := by decide +kernel
theorem dX1_made_135 : decode cX1_made 135 = .ok (.aload_n 0, 1) := by decide +kernel
theorem dX1_made_136 : decode cX1_made 136 = .ok (.dup, 1) := by decide +kernel
theorem dX1_made_137 : decode cX1_made 137 = .ok (.getfield 40, 3) := by decide +kernel
theorem dX1_made_140 : decode cX1_made 140 = .ok (.iconst 1, 1) := by decide +kernel
theorem dX1_made_141 : decode cX1_made 141 = .ok (.iadd, 1) := by decide +kernel
theorem dX1_made_142 : decode cX1_made 142 = .ok (.putfield 40, 3) := by decide +kernel
theorem dX1_made_145 : decode cX1_made 145 = .ok (.iload 4, 2) := by decide +kernel
theorem dX1_made_147 : decode cX1_made 147 = .ok (.ireturn, 1) := by decide +kernel
theorem dX1_make_0 : decode cX1_make 0 = .ok (.aload_n 0, 1) := by decide +kernel
theorem dX1_make_1 : decode cX1_make 1 = .ok (.aload_n 0, 1) := by decide +kernel
theorem dX1_make_2 : decode cX1_make 2 = .ok (.iload_n 1, 1) := by decide +kernel
theorem dX1_make_3 : decode cX1_make 3 = .ok (.invokevirtual 64, 3) := by decide +kernel
theorem dX1_make_6 : decode cX1_make 6 = .ok (.ifCond .eq 13, 3) := by decide +kernel
theorem dX1_make_9 : decode cX1_make 9 = .ok (.iload_n 3, 1) := by decide +kernel
theorem dX1_make_10 : decode cX1_make 10 = .ok (.ifCond .lt 9, 3) := by decide +kernel
theorem dX1_make_13 : decode cX1_make 13 = .ok (.iload_n 3, 1) := by decide +kernel
theorem dX1_make_14 : decode cX1_make 14 = .ok (.bipush 40, 2) := by decide +kernel
theorem dX1_make_16 : decode cX1_make 16 = .ok (.if_icmp .le 7, 3) := by decide +kernel
theorem dX1_make_19 : decode cX1_make 19 = .ok (.iconst 1, 1) := by decide +kernel
theorem dX1_make_20 : decode cX1_make 20 = .ok (.goto 4, 3) := by decide +kernel
theorem dX1_make_23 : decode cX1_make 23 = .ok (.iconst 0, 1) := by decide +kernel
theorem dX1_make_24 : decode cX1_make 24 = .ok (.putfield 36, 3) := by decide +kernel
theorem dX1_make_27 : decode cX1_make 27 = .ok (.aload_n 0, 1) := by decide +kernel
theorem dX1_make_28 : decode cX1_make 28 = .ok (.getfield 36, 3) := by decide +kernel
theorem dX1_make_31 : decode cX1_make 31 = .ok (.ifCond .eq 5, 3) := by decide +kernel
theorem dX1_make_34 : decode cX1_make 34 = .ok (.iconst 0, 1) := by decide +kernel
theorem dX1_make_35 : decode cX1_make 35 = .ok (.ireturn, 1) := by decide +kernel
theorem dX1_make_36 : decode cX1_make 36 = .ok (.aload_n 0, 1) := by decide +kernel
theorem dX1_make_37 : decode cX1_make 37 = .ok (.iload_n 2, 1) := by decide +kernel
theorem dX1_make_38 : decode cX1_make 38 = .ok (.ifCond .eq 7, 3) := by decide +kernel
theorem dX1_make_41 : decode cX1_make 41 = .ok (.iconst 1, 1) := by decide +kernel
theorem dX1_make_42 : decode cX1_make 42 = .ok (.goto 4, 3) := by decide +kernel
theorem dX1_make_45 : decode cX1_make 45 = .ok (.iconst 2, 1) := by decide +kernel
theorem dX1_make_46 : decode cX1_make 46 = .ok (.iload_n 3, 1) := by decide +kernel
theorem dX1_make_47 : decode cX1_make 47 = .ok (.invokevirtual 68, 3) := by decide +kernel
theorem dX1_make_50 : decode cX1_make 50 = .ok (.istore 4, 2) := by decide +kernel
theorem dX1_make_52 : decode cX1_make 52 = .ok (.aload_n 0, 1) := by decide +kernel
theorem dX1_make_53 : decode cX1_make 53 = .ok (.iload 4, 2) := by decide +kernel
theorem dX1_make_55 : decode cX1_make 55 = .ok (.ifCond .ne 7, 3) := by decide +kernel
theorem dX1_make_58 : decode cX1_make 58 = .ok (.iconst 2, 1) := by decide +kernel
theorem dX1_make_59 : decode cX1_make 59 = .ok (.goto 4, 3) := by decide +kernel
theorem dX1_make_62 : decode cX1_make 62 = .ok (.iconst 0, 1) := by decide +kernel
theorem dX1_make_63 : decode cX1_make 63 = .ok (.putfield 36, 3) := by decide +kernel
theorem dX1_make_66 : decode cX1_make 66 = .ok (.iload 4, 2) := by decide +kernel
theorem dX1_make_68 : decode cX1_make 68 = .ok (.ifCond .ne 5, 3) := by decide +kernel
theorem dX1_make_71 : decode cX1_make 71 = .ok (.iconst 0, 1) := by decide +kernel
theorem dX1_make_72 : decode cX1_make 72 = .ok (.ireturn, 1) := by decide +kernel
theorem dX1_make_73 : decode cX1_make 73 = .ok (.aload_n 0, 1) := by decide +kernel
theorem dX1_make_74 : decode cX1_make 74 = .ok (.getfield 30, 3) := by decide +kernel
theorem dX1_make_77 : decode cX1_make 77 = .ok (.iload_n 1, 1) := by decide +kernel
theorem dX1_make_78 : decode cX1_make 78 = .ok (.iload 4, 2) := by decide +kernel
theorem dX1_make_80 : decode cX1_make 80 = .ok (.iastore, 1) := by decide +kernel
theorem dX1_make_81 : decode cX1_make 81 = .ok (.aload_n 0, 1) := by decide +kernel
theorem dX1_make_82 : decode cX1_make 82 = .ok (.iload 4, 2) := by decide +kernel
theorem dX1_make_84 : decode cX1_make 84 = .ok (.invokevirtual 72, 3) := by decide +kernel
theorem dX1_make_87 : decode cX1_make 87 = .ok (.ireturn, 1) := by decide +kernel
theorem dX1_weak_0 : decode cX1_weak 0 = .ok (.aload_n 0, 1) := by decide +kernel
theorem dX1_weak_1 : decode cX1_weak 1 = .ok (.aload_n 0, 1) := by decide +kernel
theorem dX1_weak_2 : decode cX1_weak 2 = .ok (.iload_n 1, 1) := by decide +kernel
theorem dX1_weak_3 : decode cX1_weak 3 = .ok (.invokevirtual 64, 3) := by decide +kernel
theorem dX1_weak_6 : decode cX1_weak 6 = .ok (.ifCond .eq 11, 3) := by decide +kernel
theorem dX1_weak_9 : decode cX1_weak 9 = .ok (.aload_n 0, 1) := by decide +kernel
theorem dX1_weak_10 : decode cX1_weak 10 = .ok (.iload_n 2, 1) := by decide +kernel
theorem dX1_weak_11 : decode cX1_weak 11 = .ok (.invokevirtual 64, 3) := by decide +kernel
theorem dX1_weak_14 : decode cX1_weak 14 = .ok (.ifCond .ne 7, 3) := by decide +kernel
theorem dX1_weak_17 : decode cX1_weak 17 = .ok (.iconst 1, 1) := by decide +kernel
theorem dX1_weak_18 : decode cX1_weak 18 = .ok (.goto 17, 3) := by decide +kernel
theorem dX1_weak_21 : decode cX1_weak 21 = .ok (.aload_n 0, 1) := by decide +kernel
theorem dX1_weak_22 : decode cX1_weak 22 = .ok (.getfield 30, 3) := by decide +kernel
theorem dX1_weak_25 : decode cX1_weak 25 = .ok (.iload_n 2, 1) := by decide +kernel
theorem dX1_weak_26 : decode cX1_weak 26 = .ok (.iaload, 1) := by decide +kernel
theorem dX1_weak_27 : decode cX1_weak 27 = .ok (.ifCond .ne 7, 3) := by decide +kernel
theorem dX1_weak_30 : decode cX1_weak 30 = .ok (.iconst 3, 1) := by decide +kernel
theorem dX1_weak_31 : decode cX1_weak 31 = .ok (.goto 4, 3) := by decide +kernel
theorem dX1_weak_34 : decode cX1_weak 34 = .ok (.iconst 0, 1) := by decide +kernel
theorem dX1_weak_35 : decode cX1_weak 35 = .ok (.putfield 36, 3) := by decide +kernel
theorem dX1_weak_38 : decode cX1_weak 38 = .ok (.aload_n 0, 1) := by decide +kernel
theorem dX1_weak_39 : decode cX1_weak 39 = .ok (.getfield 36, 3) := by decide +kernel
theorem dX1_weak_42 : decode cX1_weak 42 = .ok (.ifCond .eq 5, 3) := by decide +kernel
theorem dX1_weak_45 : decode cX1_weak 45 = .ok (.iconst 0, 1) := by decide +kernel
theorem dX1_weak_46 : decode cX1_weak 46 = .ok (.ireturn, 1) := by decide +kernel
theorem dX1_weak_47 : decode cX1_weak 47 = .ok (.aload_n 0, 1) := by decide +kernel
theorem dX1_weak_48 : decode cX1_weak 48 = .ok (.iconst 3, 1) := by decide +kernel
theorem dX1_weak_49 : decode cX1_weak 49 = .ok (.iconst 1, 1) := by decide +kernel
theorem dX1_weak_50 : decode cX1_weak 50 = .ok (.invokevirtual 68, 3) := by decide +kernel
theorem dX1_weak_53 : decode cX1_weak 53 = .ok (.istore_n 3, 1) := by decide +kernel
theorem dX1_weak_54 : decode cX1_weak 54 = .ok (.aload_n 0, 1) := by decide +kernel
theorem dX1_weak_55 : decode cX1_weak 55 = .ok (.iload_n 3, 1) := by decide +kernel
theorem dX1_weak_56 : decode cX1_weak 56 = .ok (.ifCond .ne 7, 3) := by decide +kernel
theorem dX1_weak_59 : decode cX1_weak 59 = .ok (.iconst 2, 1) := by decide +kernel
theorem dX1_weak_60 : decode cX1_weak 60 = .ok (.goto 4, 3) := by decide +kernel
theorem dX1_weak_63 : decode cX1_weak 63 = .ok (.iconst 0, 1) := by decide +kernel
theorem dX1_weak_64 : decode cX1_weak 64 = .ok (.putfield 36, 3) := by decide +kernel
theorem dX1_weak_67 : decode cX1_weak 67 = .ok (.iload_n 3, 1) := by decide +kernel
theorem dX1_weak_68 : decode cX1_weak 68 = .ok (.ifCond .ne 5, 3) := by decide +kernel
theorem dX1_weak_71 : decode cX1_weak 71 = .ok (.iconst 0, 1) := by decide +kernel
theorem dX1_weak_72 : decode cX1_weak 72 = .ok (.ireturn, 1) := by decide +kernel
theorem dX1_weak_73 : decode cX1_weak 73 = .ok (.aload_n 0, 1) := by decide +kernel
theorem dX1_weak_74 : decode cX1_weak 74 = .ok (.getfield 19, 3) := by decide +kernel
theorem dX1_weak_77 : decode cX1_weak 77 = .ok (.bipush 40, 2) := by decide +kernel
theorem dX1_weak_79 : decode cX1_weak 79 = .ok (.iload_n 3, 1) := by decide +kernel
theorem dX1_weak_80 : decode cX1_weak 80 = .ok (.imul, 1) := by decide +kernel
theorem dX1_weak_81 : decode cX1_weak 81 = .ok (.aload_n 0, 1) := by decide +kernel
theorem dX1_weak_82 : decode cX1_weak 82 = .ok (.getfield 30, 3) := by decide +kernel
theorem dX1_weak_85 : decode cX1_weak 85 = .ok (.iload_n 2, 1) := by decide +kernel
theorem dX1_weak_86 : decode cX1_weak 86 = .ok (.iaload, 1) := by decide +kernel
theorem dX1_weak_87 : decode cX1_weak 87 = .ok (.iastore, 1) := by decide +kernel
theorem dX1_weak_88 : decode cX1_weak 88 = .ok (.aload_n 0, 1) := by decide +kernel
theorem dX1_weak_89 : decode cX1_weak 89 = .ok (.getfield 30, 3) := by decide +kernel
theorem dX1_weak_92 : decode cX1_weak 92 = .ok (.iload_n 1, 1) := by decide +kernel
theorem dX1_weak_93 : decode cX1_weak 93 = .ok (.iload_n 3, 1) := by decide +kernel
theorem dX1_weak_94 : decode cX1_weak 94 = .ok (.iastore, 1) := by decide +kernel
theorem dX1_weak_95 : decode cX1_weak 95 = .ok (.aload_n 0, 1) := by decide +kernel
theorem dX1_weak_96 : decode cX1_weak 96 = .ok (.iload_n 3, 1) := by decide +kernel
theorem dX1_weak_97 : decode cX1_weak 97 = .ok (.invokevirtual 72, 3) := by decide +kernel
theorem dX1_weak_100 : decode cX1_weak 100 = .ok (.ireturn, 1) := by decide +kernel
theorem dX1_copy_0 : decode cX1_copy 0 = .ok (.aload_n 0, 1) := by decide +kernel
theorem dX1_copy_1 : decode cX1_copy 1 = .ok (.aload_n 0, 1) := by decide +kernel
theorem dX1_copy_2 : decode cX1_copy 2 = .ok (.iload_n 1, 1) := by decide +kernel
theorem dX1_copy_3 : decode cX1_copy 3 = .ok (.invokevirtual 64, 3) := by decide +kernel
theorem dX1_copy_6 : decode cX1_copy 6 = .ok (.ifCond .eq 11, 3) := by decide +kernel
theorem dX1_copy_9 : decode cX1_copy 9 = .ok (.aload_n 0, 1) := by decide +kernel
theorem dX1_copy_10 : decode cX1_copy 10 = .ok (.iload_n 2, 1) := by decide +kernel
theorem dX1_copy_11 : decode cX1_copy 11 = .ok (.invokevirtual 64, 3) := by decide +kernel
theorem dX1_copy_14 : decode cX1_copy 14 = .ok (.ifCond .ne 7, 3) := by decide +kernel
theorem dX1_copy_17 : decode cX1_copy 17 = .ok (.iconst 1, 1) := by decide +kernel
theorem dX1_copy_18 : decode cX1_copy 18 = .ok (.goto 4, 3) := by decide +kernel
theorem dX1_copy_21 : decode cX1_copy 21 = .ok (.iconst 0, 1) := by decide +kernel
theorem dX1_copy_22 : decode cX1_copy 22 = .ok (.putfield 36, 3) := by decide +kernel
theorem dX1_copy_25 : decode cX1_copy 25 = .ok (.aload_n 0, 1) := by decide +kernel
theorem dX1_copy_26 : decode cX1_copy 26 = .ok (.getfield 36, 3) := by decide +kernel
theorem dX1_copy_29 : decode cX1_copy 29 = .ok (.ifCond .ne 15, 3) := by decide +kernel
theorem dX1_copy_32 : decode cX1_copy 32 = .ok (.aload_n 0, 1) := by decide +kernel
theorem dX1_copy_33 : decode cX1_copy 33 = .ok (.getfield 30, 3) := by decide +kernel
theorem dX1_copy_36 : decode cX1_copy 36 = .ok (.iload_n 1, 1) := by decide +kernel
theorem dX1_copy_37 : decode cX1_copy 37 = .ok (.aload_n 0, 1) := by decide +kernel
theorem dX1_copy_38 : decode cX1_copy 38 = .ok (.getfield 30, 3) := by decide +kernel
theorem dX1_copy_41 : decode cX1_copy 41 = .ok (.iload_n 2, 1) := by decide +kernel
theorem dX1_copy_42 : decode cX1_copy 42 = .ok (.iaload, 1) := by decide +kernel
theorem dX1_copy_43 : decode cX1_copy 43 = .ok (.iastore, 1) := by decide +kernel
theorem dX1_copy_44 : decode cX1_copy 44 = .ok (.return_, 1) := by decide +kernel
theorem dX1_drop_0 : decode cX1_drop 0 = .ok (.aload_n 0, 1) := by decide +kernel
theorem dX1_drop_1 : decode cX1_drop 1 = .ok (.aload_n 0, 1) := by decide +kernel
theorem dX1_drop_2 : decode cX1_drop 2 = .ok (.iload_n 1, 1) := by decide +kernel
theorem dX1_drop_3 : decode cX1_drop 3 = .ok (.invokevirtual 64, 3) := by decide +kernel
theorem dX1_drop_6 : decode cX1_drop 6 = .ok (.ifCond .ne 7, 3) := by decide +kernel
theorem dX1_drop_9 : decode cX1_drop 9 = .ok (.iconst 1, 1) := by decide +kernel
theorem dX1_drop_10 : decode cX1_drop 10 = .ok (.goto 4, 3) := by decide +kernel
theorem dX1_drop_13 : decode cX1_drop 13 = .ok (.iconst 0, 1) := by decide +kernel
theorem dX1_drop_14 : decode cX1_drop 14 = .ok (.putfield 36, 3) := by decide +kernel
theorem dX1_drop_17 : decode cX1_drop 17 = .ok (.aload_n 0, 1) := by decide +kernel
theorem dX1_drop_18 : decode cX1_drop 18 = .ok (.getfield 36, 3) := by decide +kernel
theorem dX1_drop_21 : decode cX1_drop 21 = .ok (.ifCond .ne 10, 3) := by decide +kernel
theorem dX1_drop_24 : decode cX1_drop 24 = .ok (.aload_n 0, 1) := by decide +kernel
theorem dX1_drop_25 : decode cX1_drop 25 = .ok (.getfield 30, 3) := by decide +kernel
theorem dX1_drop_28 : decode cX1_drop 28 = .ok (.iload_n 1, 1) := by decide +kernel
theorem dX1_drop_29 : decode cX1_drop 29 = .ok (.iconst 0, 1) := by decide +kernel
theorem dX1_drop_30 : decode cX1_drop 30 = .ok (.iastore, 1) := by decide +kernel
theorem dX1_drop_31 : decode cX1_drop 31 = .ok (.return_, 1) := by decide +kernel
theorem dX1_isWrong_0 : decode cX1_isWrong 0 = .ok (.aload_n 0, 1) := by decide +kernel
theorem dX1_isWrong_1 : decode cX1_isWrong 1 = .ok (.getfield 7, 3) := by decide +kernel
theorem dX1_isWrong_4 : decode cX1_isWrong 4 = .ok (.iload_n 1, 1) := by decide +kernel
theorem dX1_isWrong_5 : decode cX1_isWrong 5 = .ok (.iaload, 1) := by decide +kernel
theorem dX1_isWrong_6 : decode cX1_isWrong 6 = .ok (.iload_n 2, 1) := by decide +kernel
theorem dX1_isWrong_7 : decode cX1_isWrong 7 = .ok (.if_icmp .ne 17, 3) := by decide +kernel
theorem dX1_isWrong_10 : decode cX1_isWrong 10 = .ok (.iload_n 3, 1) := by decide +kernel
theorem dX1_isWrong_11 : decode cX1_isWrong 11 = .ok (.ifCond .lt 13, 3) := by decide +kernel
theorem dX1_isWrong_14 : decode cX1_isWrong 14 = .ok (.iload_n 3, 1) := by decide +kernel
theorem dX1_isWrong_15 : decode cX1_isWrong 15 = .ok (.aload_n 0, 1) := by decide +kernel
theorem dX1_isWrong_16 : decode cX1_isWrong 16 = .ok (.getfield 13, 3) := by decide +kernel
theorem dX1_isWrong_19 : decode cX1_isWrong 19 = .ok (.iload_n 1, 1) := by decide +kernel
theorem dX1_isWrong_20 : decode cX1_isWrong 20 = .ok (.iaload, 1) := by decide +kernel
theorem dX1_isWrong_21 : decode cX1_isWrong 21 = .ok (.if_icmp .lt 7, 3) := by decide +kernel
theorem dX1_isWrong_24 : decode cX1_isWrong 24 = .ok (.iconst 1, 1) := by decide +kernel
theorem dX1_isWrong_25 : decode cX1_isWrong 25 = .ok (.goto 4, 3) := by decide +kernel
theorem dX1_isWrong_28 : decode cX1_isWrong 28 = .ok (.iconst 0, 1) := by decide +kernel
theorem dX1_isWrong_29 : decode cX1_isWrong 29 = .ok (.ireturn, 1) := by decide +kernel
theorem dX1_link_0 : decode cX1_link 0 = .ok (.aload_n 0, 1) := by decide +kernel
theorem dX1_link_1 : decode cX1_link 1 = .ok (.aload_n 0, 1) := by decide +kernel
theorem dX1_link_2 : decode cX1_link 2 = .ok (.iload_n 1, 1) := by decide +kernel
theorem dX1_link_3 : decode cX1_link 3 = .ok (.invokevirtual 64, 3) := by decide +kernel
theorem dX1_link_6 : decode cX1_link 6 = .ok (.ifCond .eq 11, 3) := by decide +kernel
theorem dX1_link_9 : decode cX1_link 9 = .ok (.aload_n 0, 1) := by decide +kernel
theorem dX1_link_10 : decode cX1_link 10 = .ok (.iload_n 3, 1) := by decide +kernel
theorem dX1_link_11 : decode cX1_link 11 = .ok (.invokevirtual 64, 3) := by decide +kernel
theorem dX1_link_14 : decode cX1_link 14 = .ok (.ifCond .ne 7, 3) := by decide +kernel
theorem dX1_link_17 : decode cX1_link 17 = .ok (.iconst 1, 1) := by decide +kernel
theorem dX1_link_18 : decode cX1_link 18 = .ok (.goto 36, 3) := by decide +kernel
theorem dX1_link_21 : decode cX1_link 21 = .ok (.aload_n 0, 1) := by decide +kernel
theorem dX1_link_22 : decode cX1_link 22 = .ok (.getfield 30, 3) := by decide +kernel
theorem dX1_link_25 : decode cX1_link 25 = .ok (.iload_n 1, 1) := by decide +kernel
theorem dX1_link_26 : decode cX1_link 26 = .ok (.iaload, 1) := by decide +kernel
theorem dX1_link_27 : decode cX1_link 27 = .ok (.ifCond .ne 7, 3) := by decide +kernel
theorem dX1_link_30 : decode cX1_link 30 = .ok (.iconst 2, 1) := by decide +kernel
theorem dX1_link_31 : decode cX1_link 31 = .ok (.goto 23, 3) := by decide +kernel
theorem dX1_link_34 : decode cX1_link 34 = .ok (.aload_n 0, 1) := by decide +kernel
theorem dX1_link_35 : decode cX1_link 35 = .ok (.aload_n 0, 1) := by decide +kernel
theorem dX1_link_36 : decode cX1_link 36 = .ok (.getfield 30, 3) := by decide +kernel
theorem dX1_link_39 : decode cX1_link 39 = .ok (.iload_n 1, 1) := by decide +kernel
theorem dX1_link_40 : decode cX1_link 40 = .ok (.iaload, 1) := by decide +kernel
theorem dX1_link_41 : decode cX1_link 41 = .ok (.iconst 1, 1) := by decide +kernel
theorem dX1_link_42 : decode cX1_link 42 = .ok (.iload_n 2, 1) := by decide +kernel
theorem dX1_link_43 : decode cX1_link 43 = .ok (.invokevirtual 75, 3) := by decide +kernel
theorem dX1_link_46 : decode cX1_link 46 = .ok (.ifCond .eq 7, 3) := by decide +kernel
theorem dX1_link_49 : decode cX1_link 49 = .ok (.iconst 1, 1) := by decide +kernel
theorem dX1_link_50 : decode cX1_link 50 = .ok (.goto 4, 3) := by decide +kernel
theorem dX1_link_53 : decode cX1_link 53 = .ok (.iconst 0, 1) := by decide +kernel
theorem dX1_link_54 : decode cX1_link 54 = .ok (.putfield 36, 3) := by decide +kernel
theorem dX1_link_57 : decode cX1_link 57 = .ok (.aload_n 0, 1) := by decide +kernel
theorem dX1_link_58 : decode cX1_link 58 = .ok (.getfield 36, 3) := by decide +kernel
theorem dX1_link_61 : decode cX1_link 61 = .ok (.ifCond .ne 25, 3) := by decide +kernel
theorem dX1_link_64 : decode cX1_link 64 = .ok (.aload_n 0, 1) := by decide +kernel
theorem dX1_link_65 : decode cX1_link 65 = .ok (.getfield 19, 3) := by decide +kernel
theorem dX1_link_68 : decode cX1_link 68 = .ok (.bipush 40, 2) := by decide +kernel
theorem dX1_link_70 : decode cX1_link 70 = .ok (.aload_n 0, 1) := by decide +kernel
theorem dX1_link_71 : decode cX1_link 71 = .ok (.getfield 30, 3) := by decide +kernel
theorem dX1_link_74 : decode cX1_link 74 = .ok (.iload_n 1, 1) := by decide +kernel
theorem dX1_link_75 : decode cX1_link 75 = .ok (.iaload, 1) := by decide +kernel
theorem dX1_link_76 : decode cX1_link 76 = .ok (.imul, 1) := by decide +kernel
theorem dX1_link_77 : decode cX1_link 77 = .ok (.iload_n 2, 1) := by decide +kernel
theorem dX1_link_78 : decode cX1_link 78 = .ok (.iadd, 1) := by decide +kernel
theorem dX1_link_79 : decode cX1_link 79 = .ok (.aload_n 0, 1) := by decide +kernel
theorem dX1_link_80 : decode cX1_link 80 = .ok (.getfield 30, 3) := by decide +kernel
theorem dX1_link_83 : decode cX1_link 83 = .ok (.iload_n 3, 1) := by decide +kernel
theorem dX1_link_84 : decode cX1_link 84 = .ok (.iaload, 1) := by decide +kernel
theorem dX1_link_85 : decode cX1_link 85 = .ok (.iastore, 1) := by decide +kernel
theorem dX1_link_86 : decode cX1_link 86 = .ok (.return_, 1) := by decide +kernel
theorem dX1_follow_0 : decode cX1_follow 0 = .ok (.aload_n 0, 1) := by decide +kernel
theorem dX1_follow_1 : decode cX1_follow 1 = .ok (.aload_n 0, 1) := by decide +kernel
theorem dX1_follow_2 : decode cX1_follow 2 = .ok (.iload_n 1, 1) := by decide +kernel
theorem dX1_follow_3 : decode cX1_follow 3 = .ok (.invokevirtual 64, 3) := by decide +kernel
theorem dX1_follow_6 : decode cX1_follow 6 = .ok (.ifCond .eq 11, 3) := by decide +kernel
theorem dX1_follow_9 : decode cX1_follow 9 = .ok (.aload_n 0, 1) := by decide +kernel
theorem dX1_follow_10 : decode cX1_follow 10 = .ok (.iload_n 2, 1) := by decide +kernel
theorem dX1_follow_11 : decode cX1_follow 11 = .ok (.invokevirtual 64, 3) := by decide +kernel
theorem dX1_follow_14 : decode cX1_follow 14 = .ok (.ifCond .ne 7, 3) := by decide +kernel
theorem dX1_follow_17 : decode cX1_follow 17 = .ok (.iconst 1, 1) := by decide +kernel
theorem dX1_follow_18 : decode cX1_follow 18 = .ok (.goto 51, 3) := by decide +kernel
theorem dX1_follow_21 : decode cX1_follow 21 = .ok (.aload_n 0, 1) := by decide +kernel
theorem dX1_follow_22 : decode cX1_follow 22 = .ok (.getfield 30, 3) := by decide +kernel
theorem dX1_follow_25 : decode cX1_follow 25 = .ok (.iload_n 2, 1) := by decide +kernel
theorem dX1_follow_26 : decode cX1_follow 26 = .ok (.iaload, 1) := by decide +kernel
theorem dX1_follow_27 : decode cX1_follow 27 = .ok (.ifCond .ne 7, 3) := by decide +kernel
theorem dX1_follow_30 : decode cX1_follow 30 = .ok (.iconst 2, 1) := by decide +kernel
theorem dX1_follow_31 : decode cX1_follow 31 = .ok (.goto 38, 3) := by decide +kernel
theorem dX1_follow_34 : decode cX1_follow 34 = .ok (.aload_n 0, 1) := by decide +kernel
theorem dX1_follow_35 : decode cX1_follow 35 = .ok (.aload_n 0, 1) := by decide +kernel
theorem dX1_follow_36 : decode cX1_follow 36 = .ok (.getfield 30, 3) := by decide +kernel
theorem dX1_follow_39 : decode cX1_follow 39 = .ok (.iload_n 2, 1) := by decide +kernel
theorem dX1_follow_40 : decode cX1_follow 40 = .ok (.iaload, 1) := by decide +kernel
theorem dX1_follow_41 : decode cX1_follow 41 = .ok (.iconst 1, 1) := by decide +kernel
theorem dX1_follow_42 : decode cX1_follow 42 = .ok (.iload_n 3, 1) := by decide +kernel
theorem dX1_follow_43 : decode cX1_follow 43 = .ok (.invokevirtual 75, 3) := by decide +kernel
theorem dX1_follow_46 : decode cX1_follow 46 = .ok (.ifCond .eq 22, 3) := by decide +kernel
theorem dX1_follow_49 : decode cX1_follow 49 = .ok (.aload_n 0, 1) := by decide +kernel
theorem dX1_follow_50 : decode cX1_follow 50 = .ok (.aload_n 0, 1) := by decide +kernel
theorem dX1_follow_51 : decode cX1_follow 51 = .ok (.getfield 30, 3) := by decide +kernel
theorem dX1_follow_54 : decode cX1_follow 54 = .ok (.iload_n 2, 1) := by decide +kernel
theorem dX1_follow_55 : decode cX1_follow 55 = .ok (.iaload, 1) := by decide +kernel
theorem dX1_follow_56 : decode cX1_follow 56 = .ok (.iconst 3, 1) := by decide +kernel
theorem dX1_follow_57 : decode cX1_follow 57 = .ok (.iload_n 3, 1) := by decide +kernel
theorem dX1_follow_58 : decode cX1_follow 58 = .ok (.invokevirtual 75, 3) := by decide +kernel
theorem dX1_follow_61 : decode cX1_follow 61 = .ok (.ifCond .eq 7, 3) := by decide +kernel
theorem dX1_follow_64 : decode cX1_follow 64 = .ok (.iconst 1, 1) := by decide +kernel
theorem dX1_follow_65 : decode cX1_follow 65 = .ok (.goto 4, 3) := by decide +kernel
theorem dX1_follow_68 : decode cX1_follow 68 = .ok (.iconst 0, 1) := by decide +kernel
theorem dX1_follow_69 : decode cX1_follow 69 = .ok (.putfield 36, 3) := by decide +kernel
theorem dX1_follow_72 : decode cX1_follow 72 = .ok (.aload_n 0, 1) := by decide +kernel
theorem dX1_follow_73 : decode cX1_follow 73 = .ok (.getfield 36, 3) := by decide +kernel
theorem dX1_follow_76 : decode cX1_follow 76 = .ok (.ifCond .ne 25, 3) := by decide +kernel
theorem dX1_follow_79 : decode cX1_follow 79 = .ok (.aload_n 0, 1) := by decide +kernel
theorem dX1_follow_80 : decode cX1_follow 80 = .ok (.getfield 30, 3) := by decide +kernel
theorem dX1_follow_83 : decode cX1_follow 83 = .ok (.iload_n 1, 1) := by decide +kernel
theorem dX1_follow_84 : decode cX1_follow 84 = .ok (.aload_n 0, 1) := by decide +kernel
theorem dX1_follow_85 : decode cX1_follow 85 = .ok (.getfield 19, 3) := by decide +kernel
theorem dX1_follow_88 : decode cX1_follow 88 = .ok (.bipush 40, 2) := by decide +kernel
theorem dX1_follow_90 : decode cX1_follow 90 = .ok (.aload_n 0, 1) := by decide +kernel
theorem dX1_follow_91 : decode cX1_follow 91 = .ok (.getfield 30, 3) := by decide +kernel
theorem dX1_follow_94 : decode cX1_follow 94 = .ok (.iload_n 2, 1) := by decide +kernel
theorem dX1_follow_95 : decode cX1_follow 95 = .ok (.iaload, 1) := by decide +kernel
theorem dX1_follow_96 : decode cX1_follow 96 = .ok (.imul, 1) := by decide +kernel
theorem dX1_follow_97 : decode cX1_follow 97 = .ok (.iload_n 3, 1) := by decide +kernel
theorem dX1_follow_98 : decode cX1_follow 98 = .ok (.iadd, 1) := by decide +kernel
theorem dX1_follow_99 : decode cX1_follow 99 = .ok (.iaload, 1) := by decide +kernel
theorem dX1_follow_100 : decode cX1_follow 100 = .ok (.iastore, 1) := by decide +kernel
theorem dX1_follow_101 : decode cX1_follow 101 = .ok (.return_, 1) := by decide +kernel
theorem dX1_fails_0 : decode cX1_fails 0 = .ok (.aload_n 0, 1) := by decide +kernel
theorem dX1_fails_1 : decode cX1_fails 1 = .ok (.aload_n 0, 1) := by decide +kernel
theorem dX1_fails_2 : decode cX1_fails 2 = .ok (.iload_n 1, 1) := by decide +kernel
theorem dX1_fails_3 : decode cX1_fails 3 = .ok (.invokevirtual 64, 3) := by decide +kernel
theorem dX1_fails_6 : decode cX1_fails 6 = .ok (.ifCond .ne 7, 3) := by decide +kernel
theorem dX1_fails_9 : decode cX1_fails 9 = .ok (.iconst 1, 1) := by decide +kernel
theorem dX1_fails_10 : decode cX1_fails 10 = .ok (.goto 36, 3) := by decide +kernel
theorem dX1_fails_13 : decode cX1_fails 13 = .ok (.aload_n 0, 1) := by decide +kernel
theorem dX1_fails_14 : decode cX1_fails 14 = .ok (.getfield 30, 3) := by decide +kernel
theorem dX1_fails_17 : decode cX1_fails 17 = .ok (.iload_n 1, 1) := by decide +kernel
theorem dX1_fails_18 : decode cX1_fails 18 = .ok (.iaload, 1) := by decide +kernel
theorem dX1_fails_19 : decode cX1_fails 19 = .ok (.ifCond .ne 7, 3) := by decide +kernel
theorem dX1_fails_22 : decode cX1_fails 22 = .ok (.iconst 2, 1) := by decide +kernel
theorem dX1_fails_23 : decode cX1_fails 23 = .ok (.goto 23, 3) := by decide +kernel
theorem dX1_fails_26 : decode cX1_fails 26 = .ok (.aload_n 0, 1) := by decide +kernel
theorem dX1_fails_27 : decode cX1_fails 27 = .ok (.aload_n 0, 1) := by decide +kernel
theorem dX1_fails_28 : decode cX1_fails 28 = .ok (.getfield 30, 3) := by decide +kernel
theorem dX1_fails_31 : decode cX1_fails 31 = .ok (.iload_n 1, 1) := by decide +kernel
theorem dX1_fails_32 : decode cX1_fails 32 = .ok (.iaload, 1) := by decide +kernel
theorem dX1_fails_33 : decode cX1_fails 33 = .ok (.iconst 2, 1) := by decide +kernel
theorem dX1_fails_34 : decode cX1_fails 34 = .ok (.iload_n 2, 1) := by decide +kernel
theorem dX1_fails_35 : decode cX1_fails 35 = .ok (.invokevirtual 75, 3) := by decide +kernel
theorem dX1_fails_38 : decode cX1_fails 38 = .ok (.ifCond .eq 7, 3) := by decide +kernel
theorem dX1_fails_41 : decode cX1_fails 41 = .ok (.iconst 1, 1) := by decide +kernel
theorem dX1_fails_42 : decode cX1_fails 42 = .ok (.goto 4, 3) := by decide +kernel
theorem dX1_fails_45 : decode cX1_fails 45 = .ok (.iconst 0, 1) := by decide +kernel
theorem dX1_fails_46 : decode cX1_fails 46 = .ok (.putfield 36, 3) := by decide +kernel
theorem dX1_fails_49 : decode cX1_fails 49 = .ok (.aload_n 0, 1) := by decide +kernel
theorem dX1_fails_50 : decode cX1_fails 50 = .ok (.getfield 36, 3) := by decide +kernel
theorem dX1_fails_53 : decode cX1_fails 53 = .ok (.ifCond .eq 7, 3) := by decide +kernel
theorem dX1_fails_56 : decode cX1_fails 56 = .ok (.iconst 1, 1) := by decide +kernel
theorem dX1_fails_57 : decode cX1_fails 57 = .ok (.goto 4, 3) := by decide +kernel
theorem dX1_fails_60 : decode cX1_fails 60 = .ok (.iconst 0, 1) := by decide +kernel
theorem dX1_fails_61 : decode cX1_fails 61 = .ok (.ireturn, 1) := by decide +kernel
theorem dX1_put_0 : decode cX1_put 0 = .ok (.aload_n 0, 1) := by decide +kernel
theorem dX1_put_1 : decode cX1_put 1 = .ok (.iload_n 1, 1) := by decide +kernel
theorem dX1_put_2 : decode cX1_put 2 = .ok (.iload_n 2, 1) := by decide +kernel
theorem dX1_put_3 : decode cX1_put 3 = .ok (.invokevirtual 79, 3) := by decide +kernel
theorem dX1_put_6 : decode cX1_put 6 = .ok (.ifCond .ne 20, 3) := by decide +kernel
theorem dX1_put_9 : decode cX1_put 9 = .ok (.aload_n 0, 1) := by decide +kernel
theorem dX1_put_10 : decode cX1_put 10 = .ok (.getfield 22, 3) := by decide +kernel
theorem dX1_put_13 : decode cX1_put 13 = .ok (.bipush 40, 2) := by decide +kernel
theorem dX1_put_15 : decode cX1_put 15 = .ok (.aload_n 0, 1) := by decide +kernel
theorem dX1_put_16 : decode cX1_put 16 = .ok (.getfield 30, 3) := by decide +kernel
theorem dX1_put_19 : decode cX1_put 19 = .ok (.iload_n 1, 1) := by decide +kernel
theorem dX1_put_20 : decode cX1_put 20 = .ok (.iaload, 1) := by decide +kernel
theorem dX1_put_21 : decode cX1_put 21 = .ok (.imul, 1) := by decide +kernel
theorem dX1_put_22 : decode cX1_put 22 = .ok (.iload_n 2, 1) := by decide +kernel
theorem dX1_put_23 : decode cX1_put 23 = .ok (.iadd, 1) := by decide +kernel
theorem dX1_put_24 : decode cX1_put 24 = .ok (.lload_n 3, 1) := by decide +kernel
theorem dX1_put_25 : decode cX1_put 25 = .ok (.lastore, 1) := by decide +kernel
theorem dX1_put_26 : decode cX1_put 26 = .ok (.return_, 1) := by decide +kernel
theorem dX1_get_0 : decode cX1_get 0 = .ok (.aload_n 0, 1) := by decide +kernel
theorem dX1_get_1 : decode cX1_get 1 = .ok (.iload_n 1, 1) := by decide +kernel
theorem dX1_get_2 : decode cX1_get 2 = .ok (.iload_n 2, 1) := by decide +kernel
theorem dX1_get_3 : decode cX1_get 3 = .ok (.invokevirtual 79, 3) := by decide +kernel
theorem dX1_get_6 : decode cX1_get 6 = .ok (.ifCond .eq 7, 3) := by decide +kernel
theorem dX1_get_9 : decode cX1_get 9 = .ok (.lconst 0, 1) := by decide +kernel
theorem dX1_get_10 : decode cX1_get 10 = .ok (.goto 19, 3) := by decide +kernel
theorem dX1_get_13 : decode cX1_get 13 = .ok (.aload_n 0, 1) := by decide +kernel
theorem dX1_get_14 : decode cX1_get 14 = .ok (.getfield 22, 3) := by decide +kernel
theorem dX1_get_17 : decode cX1_get 17 = .ok (.bipush 40, 2) := by decide +kernel
theorem dX1_get_19 : decode cX1_get 19 = .ok (.aload_n 0, 1) := by decide +kernel
theorem dX1_get_20 : decode cX1_get 20 = .ok (.getfield 30, 3) := by decide +kernel
theorem dX1_get_23 : decode cX1_get 23 = .ok (.iload_n 1, 1) := by decide +kernel
theorem dX1_get_24 : decode cX1_get 24 = .ok (.iaload, 1) := by decide +kernel
theorem dX1_get_25 : decode cX1_get 25 = .ok (.imul, 1) := by decide +kernel
theorem dX1_get_26 : decode cX1_get 26 = .ok (.iload_n 2, 1) := by decide +kernel
theorem dX1_get_27 : decode cX1_get 27 = .ok (.iadd, 1) := by decide +kernel
theorem dX1_get_28 : decode cX1_get 28 = .ok (.laload, 1) := by decide +kernel
theorem dX1_get_29 : decode cX1_get 29 = .ok (.lreturn, 1) := by decide +kernel
theorem dX1_state_0 : decode cX1_state 0 = .ok (.aload_n 0, 1) := by decide +kernel
theorem dX1_state_1 : decode cX1_state 1 = .ok (.aload_n 0, 1) := by decide +kernel
theorem dX1_state_2 : decode cX1_state 2 = .ok (.iload_n 1, 1) := by decide +kernel
theorem dX1_state_3 : decode cX1_state 3 = .ok (.invokevirtual 64, 3) := by decide +kernel
theorem dX1_state_6 : decode cX1_state 6 = .ok (.ifCond .eq 12, 3) := by decide +kernel
theorem dX1_state_9 : decode cX1_state 9 = .ok (.iload_n 2, 1) := by decide +kernel
theorem dX1_state_10 : decode cX1_state 10 = .ok (.ifCond .lt 8, 3) := by decide +kernel
theorem dX1_state_13 : decode cX1_state 13 = .ok (.iload_n 2, 1) := by decide +kernel
theorem dX1_state_14 : decode cX1_state 14 = .ok (.iconst 2, 1) := by decide +kernel
theorem dX1_state_15 : decode cX1_state 15 = .ok (.if_icmp .le 7, 3) := by decide +kernel
theorem dX1_state_18 : decode cX1_state 18 = .ok (.iconst 1, 1) := by decide +kernel
theorem dX1_state_19 : decode cX1_state 19 = .ok (.goto 4, 3) := by decide +kernel
theorem dX1_state_22 : decode cX1_state 22 = .ok (.iconst 0, 1) := by decide +kernel
theorem dX1_state_23 : decode cX1_state 23 = .ok (.putfield 36, 3) := by decide +kernel
theorem dX1_state_26 : decode cX1_state 26 = .ok (.aload_n 0, 1) := by decide +kernel
theorem dX1_state_27 : decode cX1_state 27 = .ok (.getfield 36, 3) := by decide +kernel
theorem dX1_state_30 : decode cX1_state 30 = .ok (.ifCond .eq 5, 3) := by decide +kernel
theorem dX1_state_33 : decode cX1_state 33 = .ok (.iconst 0, 1) := by decide +kernel
theorem dX1_state_34 : decode cX1_state 34 = .ok (.ireturn, 1) := by decide +kernel
theorem dX1_state_35 : decode cX1_state 35 = .ok (.aload_n 0, 1) := by decide +kernel
theorem dX1_state_36 : decode cX1_state 36 = .ok (.getfield 30, 3) := by decide +kernel
theorem dX1_state_39 : decode cX1_state 39 = .ok (.iload_n 1, 1) := by decide +kernel
theorem dX1_state_40 : decode cX1_state 40 = .ok (.iaload, 1) := by decide +kernel
theorem dX1_state_41 : decode cX1_state 41 = .ok (.istore_n 3, 1) := by decide +kernel
theorem dX1_state_42 : decode cX1_state 42 = .ok (.iload_n 2, 1) := by decide +kernel
theorem dX1_state_43 : decode cX1_state 43 = .ok (.ifCond .ne 18, 3) := by decide +kernel
theorem dX1_state_46 : decode cX1_state 46 = .ok (.iload_n 3, 1) := by decide +kernel
theorem dX1_state_47 : decode cX1_state 47 = .ok (.ifCond .ne 7, 3) := by decide +kernel
theorem dX1_state_50 : decode cX1_state 50 = .ok (.iconst 0, 1) := by decide +kernel
theorem dX1_state_51 : decode cX1_state 51 = .ok (.goto 9, 3) := by decide +kernel
theorem dX1_state_54 : decode cX1_state 54 = .ok (.aload_n 0, 1) := by decide +kernel
theorem dX1_state_55 : decode cX1_state 55 = .ok (.getfield 7, 3) := by decide +kernel
theorem dX1_state_58 : decode cX1_state 58 = .ok (.iload_n 3, 1) := by decide +kernel
theorem dX1_state_59 : decode cX1_state 59 = .ok (.iaload, 1) := by decide +kernel
theorem dX1_state_60 : decode cX1_state 60 = .ok (.ireturn, 1) := by decide +kernel
theorem dX1_state_61 : decode cX1_state 61 = .ok (.iload_n 3, 1) := by decide +kernel
theorem dX1_state_62 : decode cX1_state 62 = .ok (.ifCond .ne 7, 3) := by decide +kernel
theorem dX1_state_65 : decode cX1_state 65 = .ok (.iconst (-1), 1) := by decide +kernel
theorem dX1_state_66 : decode cX1_state 66 = .ok (.goto 22, 3) := by decide +kernel
theorem dX1_state_69 : decode cX1_state 69 = .ok (.iload_n 2, 1) := by decide +kernel
theorem dX1_state_70 : decode cX1_state 70 = .ok (.iconst 1, 1) := by decide +kernel
theorem dX1_state_71 : decode cX1_state 71 = .ok (.if_icmp .ne 11, 3) := by decide +kernel
theorem dX1_state_74 : decode cX1_state 74 = .ok (.aload_n 0, 1) := by decide +kernel
theorem dX1_state_75 : decode cX1_state 75 = .ok (.iload_n 3, 1) := by decide +kernel
theorem dX1_state_76 : decode cX1_state 76 = .ok (.invokevirtual 72, 3) := by decide +kernel
theorem dX1_state_79 : decode cX1_state 79 = .ok (.goto 9, 3) := by decide +kernel
theorem dX1_state_82 : decode cX1_state 82 = .ok (.aload_n 0, 1) := by decide +kernel
theorem dX1_state_83 : decode cX1_state 83 = .ok (.getfield 13, 3) := by decide +kernel
theorem dX1_state_86 : decode cX1_state 86 = .ok (.iload_n 3, 1) := by decide +kernel
theorem dX1_state_87 : decode cX1_state 87 = .ok (.iaload, 1) := by decide +kernel
theorem dX1_state_88 : decode cX1_state 88 = .ok (.ireturn, 1) := by decide +kernel
theorem dX1_count_0 : decode cX1_count 0 = .ok (.aload_n 0, 1) := by decide +kernel
theorem dX1_count_1 : decode cX1_count 1 = .ok (.iconst 0, 1) := by decide +kernel
theorem dX1_count_2 : decode cX1_count 2 = .ok (.putfield 36, 3) := by decide +kernel
theorem dX1_count_5 : decode cX1_count 5 = .ok (.iload_n 1, 1) := by decide +kernel
theorem dX1_count_6 : decode cX1_count 6 = .ok (.ifCond .ne 10, 3) := by decide +kernel
theorem dX1_count_9 : decode cX1_count 9 = .ok (.aload_n 0, 1) := by decide +kernel
theorem dX1_count_10 : decode cX1_count 10 = .ok (.invokevirtual 57, 3) := by decide +kernel
theorem dX1_count_13 : decode cX1_count 13 = .ok (.goto 28, 3) := by decide +kernel
theorem dX1_count_16 : decode cX1_count 16 = .ok (.iload_n 1, 1) := by decide +kernel
theorem dX1_count_17 : decode cX1_count 17 = .ok (.iconst 1, 1) := by decide +kernel
theorem dX1_count_18 : decode cX1_count 18 = .ok (.if_icmp .ne 10, 3) := by decide +kernel
theorem dX1_count_21 : decode cX1_count 21 = .ok (.aload_n 0, 1) := by decide +kernel
theorem dX1_count_22 : decode cX1_count 22 = .ok (.getfield 40, 3) := by decide +kernel
theorem dX1_count_25 : decode cX1_count 25 = .ok (.goto 16, 3) := by decide +kernel
theorem dX1_count_28 : decode cX1_count 28 = .ok (.iload_n 1, 1) := by decide +kernel
theorem dX1_count_29 : decode cX1_count 29 = .ok (.iconst 2, 1) := by decide +kernel
theorem dX1_count_30 : decode cX1_count 30 = .ok (.if_icmp .ne 10, 3) := by decide +kernel
theorem dX1_count_33 : decode cX1_count 33 = .ok (.aload_n 0, 1) := by decide +kernel
theorem dX1_count_34 : decode cX1_count 34 = .ok (.getfield 50, 3) := by decide +kernel
theorem dX1_count_37 : decode cX1_count 37 = .ok (.goto 4, 3) := by decide +kernel
theorem dX1_count_40 : decode cX1_count 40 = .ok (.iconst (-1), 1) := by decide +kernel
theorem dX1_count_41 : decode cX1_count 41 = .ok (.ireturn, 1) := by decide +kernel
