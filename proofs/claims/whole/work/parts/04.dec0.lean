theorem dX0_init_0 : decode cX0_init 0 = .ok (.aload_n 0, 1) := by decide +kernel
theorem dX0_init_1 : decode cX0_init 1 = .ok (.invokespecial 3, 3) := by decide +kernel
theorem dX0_init_4 : decode cX0_init 4 = .ok (.aload_n 0, 1) := by decide +kernel
theorem dX0_init_5 : decode cX0_init 5 = .ok (.bipush 12, 2) := by decide +kernel
theorem dX0_init_7 : decode cX0_init 7 = .ok (.newarray .int, 2) := by decide +kernel
theorem dX0_init_9 : decode cX0_init 9 = .ok (.putfield 9, 3) := by decide +kernel
theorem dX0_init_12 : decode cX0_init 12 = .ok (.aload_n 0, 1) := by decide +kernel
theorem dX0_init_13 : decode cX0_init 13 = .ok (.bipush 12, 2) := by decide +kernel
theorem dX0_init_15 : decode cX0_init 15 = .ok (.newarray .int, 2) := by decide +kernel
theorem dX0_init_17 : decode cX0_init 17 = .ok (.putfield 15, 3) := by decide +kernel
theorem dX0_init_20 : decode cX0_init 20 = .ok (.aload_n 0, 1) := by decide +kernel
theorem dX0_init_21 : decode cX0_init 21 = .ok (.bipush 12, 2) := by decide +kernel
theorem dX0_init_23 : decode cX0_init 23 = .ok (.newarray .int, 2) := by decide +kernel
theorem dX0_init_25 : decode cX0_init 25 = .ok (.putfield 18, 3) := by decide +kernel
theorem dX0_init_28 : decode cX0_init 28 = .ok (.return_, 1) := by decide +kernel
theorem dX0_add_0 : decode cX0_add 0 = .ok (.aload_n 0, 1) := by decide +kernel
theorem dX0_add_1 : decode cX0_add 1 = .ok (.getfield 9, 3) := by decide +kernel
theorem dX0_add_4 : decode cX0_add 4 = .ok (.aload_n 0, 1) := by decide +kernel
theorem dX0_add_5 : decode cX0_add 5 = .ok (.getfield 21, 3) := by decide +kernel
theorem dX0_add_8 : decode cX0_add 8 = .ok (.iload_n 1, 1) := by decide +kernel
theorem dX0_add_9 : decode cX0_add 9 = .ok (.iastore, 1) := by decide +kernel
theorem dX0_add_10 : decode cX0_add 10 = .ok (.aload_n 0, 1) := by decide +kernel
theorem dX0_add_11 : decode cX0_add 11 = .ok (.getfield 15, 3) := by decide +kernel
theorem dX0_add_14 : decode cX0_add 14 = .ok (.aload_n 0, 1) := by decide +kernel
theorem dX0_add_15 : decode cX0_add 15 = .ok (.getfield 21, 3) := by decide +kernel
theorem dX0_add_18 : decode cX0_add 18 = .ok (.iload_n 2, 1) := by decide +kernel
theorem dX0_add_19 : decode cX0_add 19 = .ok (.iastore, 1) := by decide +kernel
theorem dX0_add_20 : decode cX0_add 20 = .ok (.aload_n 0, 1) := by decide +kernel
theorem dX0_add_21 : decode cX0_add 21 = .ok (.getfield 18, 3) := by decide +kernel
theorem dX0_add_24 : decode cX0_add 24 = .ok (.aload_n 0, 1) := by decide +kernel
theorem dX0_add_25 : decode cX0_add 25 = .ok (.getfield 21, 3) := by decide +kernel
theorem dX0_add_28 : decode cX0_add 28 = .ok (.iload_n 3, 1) := by decide +kernel
theorem dX0_add_29 : decode cX0_add 29 = .ok (.iastore, 1) := by decide +kernel
theorem dX0_add_30 : decode cX0_add 30 = .ok (.aload_n 0, 1) := by decide +kernel
theorem dX0_add_31 : decode cX0_add 31 = .ok (.dup, 1) := by decide +kernel
theorem dX0_add_32 : decode cX0_add 32 = .ok (.getfield 21, 3) := by decide +kernel
theorem dX0_add_35 : decode cX0_add 35 = .ok (.iconst 1, 1) := by decide +kernel
theorem dX0_add_36 : decode cX0_add 36 = .ok (.iadd, 1) := by decide +kernel
theorem dX0_add_37 : decode cX0_add 37 = .ok (.putfield 21, 3) := by decide +kernel
theorem dX0_add_40 : decode cX0_add 40 = .ok (.aload_n 0, 1) := by decide +kernel
theorem dX0_add_41 : decode cX0_add 41 = .ok (.getfield 21, 3) := by decide +kernel
theorem dX0_add_44 : decode cX0_add 44 = .ok (.iconst 1, 1) := by decide +kernel
theorem dX0_add_45 : decode cX0_add 45 = .ok (.isub, 1) := by decide +kernel
theorem dX0_add_46 : decode cX0_add 46 = .ok (.ireturn, 1) := by decide +kernel
theorem dX0_lineFor_0 : decode cX0_lineFor 0 = .ok (.iconst 0, 1) := by decide +kernel
theorem dX0_lineFor_1 : decode cX0_lineFor 1 = .ok (.istore_n 3, 1) := by decide +kernel
theorem dX0_lineFor_2 : decode cX0_lineFor 2 = .ok (.iload_n 3, 1) := by decide +kernel
theorem dX0_lineFor_3 : decode cX0_lineFor 3 = .ok (.iload_n 2, 1) := by decide +kernel
theorem dX0_lineFor_4 : decode cX0_lineFor 4 = .ok (.if_icmp .ge 31, 3) := by decide +kernel
theorem dX0_lineFor_7 : decode cX0_lineFor 7 = .ok (.aload_n 0, 1) := by decide +kernel
theorem dX0_lineFor_8 : decode cX0_lineFor 8 = .ok (.getfield 9, 3) := by decide +kernel
theorem dX0_lineFor_11 : decode cX0_lineFor 11 = .ok (.iload_n 3, 1) := by decide +kernel
theorem dX0_lineFor_12 : decode cX0_lineFor 12 = .ok (.iaload, 1) := by decide +kernel
theorem dX0_lineFor_13 : decode cX0_lineFor 13 = .ok (.iload_n 1, 1) := by decide +kernel
theorem dX0_lineFor_14 : decode cX0_lineFor 14 = .ok (.if_icmp .gt 15, 3) := by decide +kernel
theorem dX0_lineFor_17 : decode cX0_lineFor 17 = .ok (.iload_n 1, 1) := by decide +kernel
theorem dX0_lineFor_18 : decode cX0_lineFor 18 = .ok (.aload_n 0, 1) := by decide +kernel
theorem dX0_lineFor_19 : decode cX0_lineFor 19 = .ok (.getfield 15, 3) := by decide +kernel
theorem dX0_lineFor_22 : decode cX0_lineFor 22 = .ok (.iload_n 3, 1) := by decide +kernel
theorem dX0_lineFor_23 : decode cX0_lineFor 23 = .ok (.iaload, 1) := by decide +kernel
theorem dX0_lineFor_24 : decode cX0_lineFor 24 = .ok (.if_icmp .gt 5, 3) := by decide +kernel
theorem dX0_lineFor_27 : decode cX0_lineFor 27 = .ok (.iload_n 3, 1) := by decide +kernel
theorem dX0_lineFor_28 : decode cX0_lineFor 28 = .ok (.ireturn, 1) := by decide +kernel
theorem dX0_lineFor_29 : decode cX0_lineFor 29 = .ok (.iinc 3 1, 3) := by decide +kernel
theorem dX0_lineFor_32 : decode cX0_lineFor 32 = .ok (.goto (-30), 3) := by decide +kernel
theorem dX0_lineFor_35 : decode cX0_lineFor 35 = .ok (.bipush (-9), 2) := by decide +kernel
theorem dX0_lineFor_37 : decode cX0_lineFor 37 = .ok (.ireturn, 1) := by decide +kernel
theorem dX0_steps_0 : decode cX0_steps 0 = .ok (.iload_n 1, 1) := by decide +kernel
theorem dX0_steps_1 : decode cX0_steps 1 = .ok (.bipush (-9), 2) := by decide +kernel
theorem dX0_steps_3 : decode cX0_steps 3 = .ok (.if_icmp .ne 5, 3) := by decide +kernel
theorem dX0_steps_6 : decode cX0_steps 6 = .ok (.iconst 0, 1) := by decide +kernel
theorem dX0_steps_7 : decode cX0_steps 7 = .ok (.ireturn, 1) := by decide +kernel
theorem dX0_steps_8 : decode cX0_steps 8 = .ok (.aload_n 0, 1) := by decide +kernel
theorem dX0_steps_9 : decode cX0_steps 9 = .ok (.getfield 18, 3) := by decide +kernel
theorem dX0_steps_12 : decode cX0_steps 12 = .ok (.iload_n 1, 1) := by decide +kernel
theorem dX0_steps_13 : decode cX0_steps 13 = .ok (.iaload, 1) := by decide +kernel
theorem dX0_steps_14 : decode cX0_steps 14 = .ok (.istore_n 3, 1) := by decide +kernel
theorem dX0_steps_15 : decode cX0_steps 15 = .ok (.iload_n 2, 1) := by decide +kernel
theorem dX0_steps_16 : decode cX0_steps 16 = .ok (.iconst 1, 1) := by decide +kernel
theorem dX0_steps_17 : decode cX0_steps 17 = .ok (.if_icmp .ne 9, 3) := by decide +kernel
theorem dX0_steps_20 : decode cX0_steps 20 = .ok (.iload_n 3, 1) := by decide +kernel
theorem dX0_steps_21 : decode cX0_steps 21 = .ok (.iconst (-1), 1) := by decide +kernel
theorem dX0_steps_22 : decode cX0_steps 22 = .ok (.invokestatic 25, 3) := by decide +kernel
theorem dX0_steps_25 : decode cX0_steps 25 = .ok (.ireturn, 1) := by decide +kernel
theorem dX0_steps_26 : decode cX0_steps 26 = .ok (.iload_n 2, 1) := by decide +kernel
theorem dX0_steps_27 : decode cX0_steps 27 = .ok (.iconst 2, 1) := by decide +kernel
theorem dX0_steps_28 : decode cX0_steps 28 = .ok (.if_icmp .ne 13, 3) := by decide +kernel
theorem dX0_steps_31 : decode cX0_steps 31 = .ok (.iload_n 3, 1) := by decide +kernel
theorem dX0_steps_32 : decode cX0_steps 32 = .ok (.ifCond .le 9, 3) := by decide +kernel
theorem dX0_steps_35 : decode cX0_steps 35 = .ok (.iconst 2, 1) := by decide +kernel
theorem dX0_steps_36 : decode cX0_steps 36 = .ok (.iload_n 3, 1) := by decide +kernel
theorem dX0_steps_37 : decode cX0_steps 37 = .ok (.imul, 1) := by decide +kernel
theorem dX0_steps_38 : decode cX0_steps 38 = .ok (.goto 4, 3) := by decide +kernel
theorem dX0_steps_41 : decode cX0_steps 41 = .ok (.iload_n 3, 1) := by decide +kernel
theorem dX0_steps_42 : decode cX0_steps 42 = .ok (.ireturn, 1) := by decide +kernel
theorem dX1_init_0 : decode cX1_init 0 = .ok (.aload_n 0, 1) := by decide +kernel
theorem dX1_init_1 : decode cX1_init 1 = .ok (.invokespecial 3, 3) := by decide +kernel
theorem dX1_init_4 : decode cX1_init 4 = .ok (.aload_n 0, 1) := by decide +kernel
theorem dX1_init_5 : decode cX1_init 5 = .ok (.bipush 16, 2) := by decide +kernel
theorem dX1_init_7 : decode cX1_init 7 = .ok (.newarray .int, 2) := by decide +kernel
theorem dX1_init_9 : decode cX1_init 9 = .ok (.putfield 9, 3) := by decide +kernel
theorem dX1_init_12 : decode cX1_init 12 = .ok (.aload_n 0, 1) := by decide +kernel
theorem dX1_init_13 : decode cX1_init 13 = .ok (.bipush 16, 2) := by decide +kernel
theorem dX1_init_15 : decode cX1_init 15 = .ok (.newarray .int, 2) := by decide +kernel
theorem dX1_init_17 : decode cX1_init 17 = .ok (.putfield 15, 3) := by decide +kernel
theorem dX1_init_20 : decode cX1_init 20 = .ok (.aload_n 0, 1) := by decide +kernel
theorem dX1_init_21 : decode cX1_init 21 = .ok (.bipush 16, 2) := by decide +kernel
theorem dX1_init_23 : decode cX1_init 23 = .ok (.bipush 16, 2) := by decide +kernel
theorem dX1_init_25 : decode cX1_init 25 = .ok (.multianewarray 18 2, 4) := by decide +kernel
theorem dX1_init_29 : decode cX1_init 29 = .ok (.putfield 20, 3) := by decide +kernel
theorem dX1_init_32 : decode cX1_init 32 = .ok (.aload_n 0, 1) := by decide +kernel
theorem dX1_init_33 : decode cX1_init 33 = .ok (.sipush 8192, 3) := by decide +kernel
theorem dX1_init_36 : decode cX1_init 36 = .ok (.newarray .int, 2) := by decide +kernel
theorem dX1_init_38 : decode cX1_init 38 = .ok (.putfield 23, 3) := by decide +kernel
theorem dX1_init_41 : decode cX1_init 41 = .ok (.return_, 1) := by decide +kernel
theorem dX1_solve_0 : decode cX1_solve 0 = .ok (.aload_n 0, 1) := by decide +kernel
theorem dX1_solve_1 : decode cX1_solve 1 = .ok (.getfield 23, 3) := by decide +kernel
theorem dX1_solve_4 : decode cX1_solve 4 = .ok (.iconst 0, 1) := by decide +kernel
theorem dX1_solve_5 : decode cX1_solve 5 = .ok (.sipush 8192, 3) := by decide +kernel
theorem dX1_solve_8 : decode cX1_solve 8 = .ok (.iconst 1, 1) := by decide +kernel
theorem dX1_solve_9 : decode cX1_solve 9 = .ok (.aload_n 0, 1) := by decide +kernel
theorem dX1_solve_10 : decode cX1_solve 10 = .ok (.getfield 26, 3) := by decide +kernel
theorem dX1_solve_13 : decode cX1_solve 13 = .ok (.ishl, 1) := by decide +kernel
theorem dX1_solve_14 : decode cX1_solve 14 = .ok (.invokestatic 30, 3) := by decide +kernel
theorem dX1_solve_17 : decode cX1_solve 17 = .ok (.iconst 0, 1) := by decide +kernel
theorem dX1_solve_18 : decode cX1_solve 18 = .ok (.invokestatic 36, 3) := by decide +kernel
theorem dX1_solve_21 : decode cX1_solve 21 = .ok (.aload_n 0, 1) := by decide +kernel
theorem dX1_solve_22 : decode cX1_solve 22 = .ok (.getfield 15, 3) := by decide +kernel
theorem dX1_solve_25 : decode cX1_solve 25 = .ok (.bipush (-9), 2) := by decide +kernel
theorem dX1_solve_27 : decode cX1_solve 27 = .ok (.invokestatic 42, 3) := by decide +kernel
theorem dX1_solve_30 : decode cX1_solve 30 = .ok (.iconst 1, 1) := by decide +kernel
theorem dX1_solve_31 : decode cX1_solve 31 = .ok (.aload_n 0, 1) := by decide +kernel
theorem dX1_solve_32 : decode cX1_solve 32 = .ok (.getfield 26, 3) := by decide +kernel
theorem dX1_solve_35 : decode cX1_solve 35 = .ok (.ishl, 1) := by decide +kernel
theorem dX1_solve_36 : decode cX1_solve 36 = .ok (.iconst 1, 1) := by decide +kernel
theorem dX1_solve_37 : decode cX1_solve 37 = .ok (.isub, 1) := by decide +kernel
theorem dX1_solve_38 : decode cX1_solve 38 = .ok (.istore_n 1, 1) := by decide +kernel
theorem dX1_solve_39 : decode cX1_solve 39 = .ok (.aload_n 0, 1) := by decide +kernel
theorem dX1_solve_40 : decode cX1_solve 40 = .ok (.iconst 0, 1) := by decide +kernel
theorem dX1_solve_41 : decode cX1_solve 41 = .ok (.iload_n 1, 1) := by decide +kernel
theorem dX1_solve_42 : decode cX1_solve 42 = .ok (.invokestatic 45, 3) := by decide +kernel
theorem dX1_solve_45 : decode cX1_solve 45 = .ok (.istore_n 2, 1) := by decide +kernel
theorem dX1_solve_46 : decode cX1_solve 46 = .ok (.iload_n 2, 1) := by decide +kernel
theorem dX1_solve_47 : decode cX1_solve 47 = .ok (.istore_n 3, 1) := by decide +kernel
theorem dX1_solve_48 : decode cX1_solve 48 = .ok (.iconst 0, 1) := by decide +kernel
theorem dX1_solve_49 : decode cX1_solve 49 = .ok (.istore 4, 2) := by decide +kernel
theorem dX1_solve_51 : decode cX1_solve 51 = .ok (.iload 4, 2) := by decide +kernel
theorem dX1_solve_53 : decode cX1_solve 53 = .ok (.aload_n 0, 1) := by decide +kernel
theorem dX1_solve_54 : decode cX1_solve 54 = .ok (.getfield 26, 3) := by decide +kernel
theorem dX1_solve_57 : decode cX1_solve 57 = .ok (.if_icmp .ge 95, 3) := by decide +kernel
theorem dX1_solve_60 : decode cX1_solve 60 = .ok (.iload_n 1, 1) := by decide +kernel
theorem dX1_solve_61 : decode cX1_solve 61 = .ok (.aload_n 0, 1) := by decide +kernel
theorem dX1_solve_62 : decode cX1_solve 62 = .ok (.iload 4, 2) := by decide +kernel
theorem dX1_solve_64 : decode cX1_solve 64 = .ok (.invokevirtual 49, 3) := by decide +kernel
theorem dX1_solve_67 : decode cX1_solve 67 = .ok (.iand, 1) := by decide +kernel
theorem dX1_solve_68 : decode cX1_solve 68 = .ok (.ifCond .eq 78, 3) := by decide +kernel
theorem dX1_solve_71 : decode cX1_solve 71 = .ok (.iload_n 1, 1) := by decide +kernel
theorem dX1_solve_72 : decode cX1_solve 72 = .ok (.aload_n 0, 1) := by decide +kernel
theorem dX1_solve_73 : decode cX1_solve 73 = .ok (.iload 4, 2) := by decide +kernel
theorem dX1_solve_75 : decode cX1_solve 75 = .ok (.invokevirtual 49, 3) := by decide +kernel
theorem dX1_solve_78 : decode cX1_solve 78 = .ok (.ixor, 1) := by decide +kernel
theorem dX1_solve_79 : decode cX1_solve 79 = .ok (.istore_n 1, 1) := by decide +kernel
theorem dX1_solve_80 : decode cX1_solve 80 = .ok (.aload_n 0, 1) := by decide +kernel
theorem dX1_solve_81 : decode cX1_solve 81 = .ok (.iload 4, 2) := by decide +kernel
theorem dX1_solve_83 : decode cX1_solve 83 = .ok (.iload_n 1, 1) := by decide +kernel
theorem dX1_solve_84 : decode cX1_solve 84 = .ok (.iload_n 3, 1) := by decide +kernel
theorem dX1_solve_85 : decode cX1_solve 85 = .ok (.invokevirtual 53, 3) := by decide +kernel
theorem dX1_solve_88 : decode cX1_solve 88 = .ok (.istore 5, 2) := by decide +kernel
theorem dX1_solve_90 : decode cX1_solve 90 = .ok (.iload 5, 2) := by decide +kernel
theorem dX1_solve_92 : decode cX1_solve 92 = .ok (.bipush (-9), 2) := by decide +kernel
theorem dX1_solve_94 : decode cX1_solve 94 = .ok (.if_icmp .ne 12, 3) := by decide +kernel
theorem dX1_solve_97 : decode cX1_solve 97 = .ok (.iinc 3 (-10000), 6) := by decide +kernel
theorem dX1_solve_103 : decode cX1_solve 103 = .ok (.goto 43, 3) := by decide +kernel
theorem dX1_solve_106 : decode cX1_solve 106 = .ok (.iload_n 1, 1) := by decide +kernel
theorem dX1_solve_107 : decode cX1_solve 107 = .ok (.aload_n 0, 1) := by decide +kernel
theorem dX1_solve_108 : decode cX1_solve 108 = .ok (.iload 5, 2) := by decide +kernel
theorem dX1_solve_110 : decode cX1_solve 110 = .ok (.invokevirtual 49, 3) := by decide +kernel
theorem dX1_solve_113 : decode cX1_solve 113 = .ok (.ixor, 1) := by decide +kernel
theorem dX1_solve_114 : decode cX1_solve 114 = .ok (.istore_n 1, 1) := by decide +kernel
theorem dX1_solve_115 : decode cX1_solve 115 = .ok (.iload_n 3, 1) := by decide +kernel
theorem dX1_solve_116 : decode cX1_solve 116 = .ok (.aload_n 0, 1) := by decide +kernel
theorem dX1_solve_117 : decode cX1_solve 117 = .ok (.getfield 20, 3) := by decide +kernel
theorem dX1_solve_120 : decode cX1_solve 120 = .ok (.iload 4, 2) := by decide +kernel
theorem dX1_solve_122 : decode cX1_solve 122 = .ok (.aaload, 1) := by decide +kernel
theorem dX1_solve_123 : decode cX1_solve 123 = .ok (.iload 5, 2) := by decide +kernel
theorem dX1_solve_125 : decode cX1_solve 125 = .ok (.iaload, 1) := by decide +kernel
theorem dX1_solve_126 : decode cX1_solve 126 = .ok (.isub, 1) := by decide +kernel
theorem dX1_solve_127 : decode cX1_solve 127 = .ok (.istore_n 3, 1) := by decide +kernel
theorem dX1_solve_128 : decode cX1_solve 128 = .ok (.aload_n 0, 1) := by decide +kernel
theorem dX1_solve_129 : decode cX1_solve 129 = .ok (.getfield 15, 3) := by decide +kernel
theorem dX1_solve_132 : decode cX1_solve 132 = .ok (.iload 4, 2) := by decide +kernel
theorem dX1_solve_134 : decode cX1_solve 134 = .ok (.iload 5, 2) := by decide +kernel
theorem dX1_solve_136 : decode cX1_solve 136 = .ok (.iastore, 1) := by decide +kernel
theorem dX1_solve_137 : decode cX1_solve 137 = .ok (.aload_n 0, 1) := by decide +kernel
theorem dX1_solve_138 : decode cX1_solve 138 = .ok (.getfield 15, 3) := by decide +kernel
theorem dX1_solve_141 : decode cX1_solve 141 = .ok (.iload 5, 2) := by decide +kernel
theorem dX1_solve_143 : decode cX1_solve 143 = .ok (.iload 4, 2) := by decide +kernel
theorem dX1_solve_145 : decode cX1_solve 145 = .ok (.iastore, 1) := by decide +kernel
theorem dX1_solve_146 : decode cX1_solve 146 = .ok (.iinc 4 1, 3) := by decide +kernel
theorem dX1_solve_149 : decode cX1_solve 149 = .ok (.goto (-98), 3) := by decide +kernel
theorem dX1_solve_152 : decode cX1_solve 152 = .ok (.iload_n 2, 1) := by decide +kernel
theorem dX1_solve_153 : decode cX1_solve 153 = .ok (.ireturn, 1) := by decide +kernel
theorem dX1_bitOf_0 : decode cX1_bitOf 0 = .ok (.iconst 1, 1) := by decide +kernel
theorem dX1_bitOf_1 : decode cX1_bitOf 1 = .ok (.aload_n 0, 1) := by decide +kernel
theorem dX1_bitOf_2 : decode cX1_bitOf 2 = .ok (.getfield 26, 3) := by decide +kernel
theorem dX1_bitOf_5 : decode cX1_bitOf 5 = .ok (.iconst 1, 1) := by decide +kernel
theorem dX1_bitOf_6 : decode cX1_bitOf 6 = .ok (.isub, 1) := by decide +kernel
theorem dX1_bitOf_7 : decode cX1_bitOf 7 = .ok (.iload_n 1, 1) := by decide +kernel
theorem dX1_bitOf_8 : decode cX1_bitOf 8 = .ok (.isub, 1) := by decide +kernel
theorem dX1_bitOf_9 : decode cX1_bitOf 9 = .ok (.ishl, 1) := by decide +kernel
theorem dX1_bitOf_10 : decode cX1_bitOf 10 = .ok (.ireturn, 1) := by decide +kernel
theorem dX1_uppermostMate_0 : decode cX1_uppermostMate 0 = .ok (.iload_n 1, 1) := by decide +kernel
theorem dX1_uppermostMate_1 : decode cX1_uppermostMate 1 = .ok (.iconst 1, 1) := by decide +kernel
theorem dX1_uppermostMate_2 : decode cX1_uppermostMate 2 = .ok (.iadd, 1) := by decide +kernel
theorem dX1_uppermostMate_3 : decode cX1_uppermostMate 3 = .ok (.istore 4, 2) := by decide +kernel
theorem dX1_uppermostMate_5 : decode cX1_uppermostMate 5 = .ok (.iload 4, 2) := by decide +kernel
theorem dX1_uppermostMate_7 : decode cX1_uppermostMate 7 = .ok (.aload_n 0, 1) := by decide +kernel
theorem dX1_uppermostMate_8 : decode cX1_uppermostMate 8 = .ok (.getfield 26, 3) := by decide +kernel
theorem dX1_uppermostMate_11 : decode cX1_uppermostMate 11 = .ok (.if_icmp .ge 68, 3) := by decide +kernel
theorem dX1_uppermostMate_14 : decode cX1_uppermostMate 14 = .ok (.aload_n 0, 1) := by decide +kernel
theorem dX1_uppermostMate_15 : decode cX1_uppermostMate 15 = .ok (.getfield 20, 3) := by decide +kernel
theorem dX1_uppermostMate_18 : decode cX1_uppermostMate 18 = .ok (.iload_n 1, 1) := by decide +kernel
theorem dX1_uppermostMate_19 : decode cX1_uppermostMate 19 = .ok (.aaload, 1) := by decide +kernel
theorem dX1_uppermostMate_20 : decode cX1_uppermostMate 20 = .ok (.iload 4, 2) := by decide +kernel
theorem dX1_uppermostMate_22 : decode cX1_uppermostMate 22 = .ok (.iaload, 1) := by decide +kernel
theorem dX1_uppermostMate_23 : decode cX1_uppermostMate 23 = .ok (.istore 5, 2) := by decide +kernel
theorem dX1_uppermostMate_25 : decode cX1_uppermostMate 25 = .ok (.iload_n 2, 1) := by decide +kernel
theorem dX1_uppermostMate_26 : decode cX1_uppermostMate 26 = .ok (.aload_n 0, 1) := by decide +kernel
theorem dX1_uppermostMate_27 : decode cX1_uppermostMate 27 = .ok (.iload 4, 2) := by decide +kernel
theorem dX1_uppermostMate_29 : decode cX1_uppermostMate 29 = .ok (.invokevirtual 49, 3) := by decide +kernel
theorem dX1_uppermostMate_32 : decode cX1_uppermostMate 32 = .ok (.iand, 1) := by decide +kernel
theorem dX1_uppermostMate_33 : decode cX1_uppermostMate 33 = .ok (.ifCond .eq 40, 3) := by decide +kernel
theorem dX1_uppermostMate_36 : decode cX1_uppermostMate 36 = .ok (.iload 5, 2) := by decide +kernel
theorem dX1_uppermostMate_38 : decode cX1_uppermostMate 38 = .ok (.iconst (-1), 1) := by decide +kernel
theorem dX1_uppermostMate_39 : decode cX1_uppermostMate 39 = .ok (.if_icmp .eq 34, 3) := by decide +kernel
theorem dX1_uppermostMate_42 : decode cX1_uppermostMate 42 = .ok (.iload 5, 2) := by decide +kernel
theorem dX1_uppermostMate_44 : decode cX1_uppermostMate 44 = .ok (.iload_n 3, 1) := by decide +kernel
theorem dX1_uppermostMate_45 : decode cX1_uppermostMate 45 = .ok (.if_icmp .gt 28, 3) := by decide +kernel
theorem dX1_uppermostMate_48 : decode cX1_uppermostMate 48 = .ok (.iload 5, 2) := by decide +kernel
theorem dX1_uppermostMate_50 : decode cX1_uppermostMate 50 = .ok (.aload_n 0, 1) := by decide +kernel
theorem dX1_uppermostMate_51 : decode cX1_uppermostMate 51 = .ok (.iload_n 1, 1) := by decide +kernel
theorem dX1_uppermostMate_52 : decode cX1_uppermostMate 52 = .ok (.iconst 1, 1) := by decide +kernel
theorem dX1_uppermostMate_53 : decode cX1_uppermostMate 53 = .ok (.iadd, 1) := by decide +kernel
theorem dX1_uppermostMate_54 : decode cX1_uppermostMate 54 = .ok (.iload_n 2, 1) := by decide +kernel
theorem dX1_uppermostMate_55 : decode cX1_uppermostMate 55 = .ok (.aload_n 0, 1) := by decide +kernel
theorem dX1_uppermostMate_56 : decode cX1_uppermostMate 56 = .ok (.iload 4, 2) := by decide +kernel
theorem dX1_uppermostMate_58 : decode cX1_uppermostMate 58 = .ok (.invokevirtual 49, 3) := by decide +kernel
theorem dX1_uppermostMate_61 : decode cX1_uppermostMate 61 = .ok (.ixor, 1) := by decide +kernel
theorem dX1_uppermostMate_62 : decode cX1_uppermostMate 62 = .ok (.invokestatic 45, 3) := by decide +kernel
theorem dX1_uppermostMate_65 : decode cX1_uppermostMate 65 = .ok (.iadd, 1) := by decide +kernel
theorem dX1_uppermostMate_66 : decode cX1_uppermostMate 66 = .ok (.iload_n 3, 1) := by decide +kernel
theorem dX1_uppermostMate_67 : decode cX1_uppermostMate 67 = .ok (.if_icmp .ne 6, 3) := by decide +kernel
theorem dX1_uppermostMate_70 : decode cX1_uppermostMate 70 = .ok (.iload 4, 2) := by decide +kernel
theorem dX1_uppermostMate_72 : decode cX1_uppermostMate 72 = .ok (.ireturn, 1) := by decide +kernel
theorem dX1_uppermostMate_73 : decode cX1_uppermostMate 73 = .ok (.iinc 4 1, 3) := by decide +kernel
theorem dX1_uppermostMate_76 : decode cX1_uppermostMate 76 = .ok (.goto (-71), 3) := by decide +kernel
theorem dX1_uppermostMate_79 : decode cX1_uppermostMate 79 = .ok (.bipush (-9), 2) := by decide +kernel
theorem dX1_uppermostMate_81 : decode cX1_uppermostMate 81 = .ok (.ireturn, 1) := by decide +kernel
theorem dX1_leastCost_0 : decode cX1_leastCost 0 = .ok (.iload_n 2, 1) := by decide +kernel
theorem dX1_leastCost_1 : decode cX1_leastCost 1 = .ok (.ifCond .eq 11, 3) := by decide +kernel
theorem dX1_leastCost_4 : decode cX1_leastCost 4 = .ok (.iload_n 1, 1) := by decide +kernel
theorem dX1_leastCost_5 : decode cX1_leastCost 5 = .ok (.aload_n 0, 1) := by decide +kernel
theorem dX1_leastCost_6 : decode cX1_leastCost 6 = .ok (.getfield 26, 3) := by decide +kernel
theorem dX1_leastCost_9 : decode cX1_leastCost 9 = .ok (.if_icmp .lt 5, 3) := by decide +kernel
theorem dX1_leastCost_12 : decode cX1_leastCost 12 = .ok (.iconst 0, 1) := by decide +kernel
theorem dX1_leastCost_13 : decode cX1_leastCost 13 = .ok (.ireturn, 1) := by decide +kernel
theorem dX1_leastCost_14 : decode cX1_leastCost 14 = .ok (.iload_n 2, 1) := by decide +kernel
theorem dX1_leastCost_15 : decode cX1_leastCost 15 = .ok (.sipush 8192, 3) := by decide +kernel
theorem dX1_leastCost_18 : decode cX1_leastCost 18 = .ok (.if_icmp .ge 21, 3) := by decide +kernel
theorem dX1_leastCost_21 : decode cX1_leastCost 21 = .ok (.aload_n 0, 1) := by decide +kernel
theorem dX1_leastCost_22 : decode cX1_leastCost 22 = .ok (.getfield 23, 3) := by decide +kernel
theorem dX1_leastCost_25 : decode cX1_leastCost 25 = .ok (.iload_n 2, 1) := by decide +kernel
theorem dX1_leastCost_26 : decode cX1_leastCost 26 = .ok (.iaload, 1) := by decide +kernel
theorem dX1_leastCost_27 : decode cX1_leastCost 27 = .ok (.ifCond .eq 12, 3) := by decide +kernel
theorem dX1_leastCost_30 : decode cX1_leastCost 30 = .ok (.aload_n 0, 1) := by decide +kernel
theorem dX1_leastCost_31 : decode cX1_leastCost 31 = .ok (.getfield 23, 3) := by decide +kernel
theorem dX1_leastCost_34 : decode cX1_leastCost 34 = .ok (.iload_n 2, 1) := by decide +kernel
theorem dX1_leastCost_35 : decode cX1_leastCost 35 = .ok (.iaload, 1) := by decide +kernel
theorem dX1_leastCost_36 : decode cX1_leastCost 36 = .ok (.iconst 1, 1) := by decide +kernel
theorem dX1_leastCost_37 : decode cX1_leastCost 37 = .ok (.isub, 1) := by decide +kernel
theorem dX1_leastCost_38 : decode cX1_leastCost 38 = .ok (.ireturn, 1) := by decide +kernel
theorem dX1_leastCost_39 : decode cX1_leastCost 39 = .ok (.iload_n 1, 1) := by decide +kernel
theorem dX1_leastCost_40 : decode cX1_leastCost 40 = .ok (.istore_n 3, 1) := by decide +kernel
theorem dX1_leastCost_41 : decode cX1_leastCost 41 = .ok (.aload_n 0, 1) := by decide +kernel
theorem dX1_leastCost_42 : decode cX1_leastCost 42 = .ok (.iload_n 1, 1) := by decide +kernel
theorem dX1_leastCost_43 : decode cX1_leastCost 43 = .ok (.invokevirtual 49, 3) := by decide +kernel
theorem dX1_leastCost_46 : decode cX1_leastCost 46 = .ok (.istore 4, 2) := by decide +kernel
theorem dX1_leastCost_48 : decode cX1_leastCost 48 = .ok (.iload_n 3, 1) := by decide +kernel
theorem dX1_leastCost_49 : decode cX1_leastCost 49 = .ok (.aload_n 0, 1) := by decide +kernel
theorem dX1_leastCost_50 : decode cX1_leastCost 50 = .ok (.getfield 26, 3) := by decide +kernel
theorem dX1_leastCost_53 : decode cX1_leastCost 53 = .ok (.iconst 1, 1) := by decide +kernel
theorem dX1_leastCost_54 : decode cX1_leastCost 54 = .ok (.isub, 1) := by decide +kernel
theorem dX1_leastCost_55 : decode cX1_leastCost 55 = .ok (.if_icmp .ge 22, 3) := by decide +kernel
theorem dX1_leastCost_58 : decode cX1_leastCost 58 = .ok (.iload_n 2, 1) := by decide +kernel
theorem dX1_leastCost_59 : decode cX1_leastCost 59 = .ok (.iload 4, 2) := by decide +kernel
theorem dX1_leastCost_61 : decode cX1_leastCost 61 = .ok (.iand, 1) := by decide +kernel
theorem dX1_leastCost_62 : decode cX1_leastCost 62 = .ok (.ifCond .ne 15, 3) := by decide +kernel
theorem dX1_leastCost_65 : decode cX1_leastCost 65 = .ok (.iinc 3 1, 3) := by decide +kernel
theorem dX1_leastCost_68 : decode cX1_leastCost 68 = .ok (.iload 4, 2) := by decide +kernel
theorem dX1_leastCost_70 : decode cX1_leastCost 70 = .ok (.iconst 1, 1) := by decide +kernel
theorem dX1_leastCost_71 : decode cX1_leastCost 71 = .ok (.ishr, 1) := by decide +kernel
theorem dX1_leastCost_72 : decode cX1_leastCost 72 = .ok (.istore 4, 2) := by decide +kernel
theorem dX1_leastCost_74 : decode cX1_leastCost 74 = .ok (.goto (-26), 3) := by decide +kernel
theorem dX1_leastCost_77 : decode cX1_leastCost 77 = .ok (.iload_n 2, 1) := by decide +kernel
theorem dX1_leastCost_78 : decode cX1_leastCost 78 = .ok (.iload 4, 2) := by decide +kernel
theorem dX1_leastCost_80 : decode cX1_leastCost 80 = .ok (.iconst (-1), 1) := by decide +kernel
theorem dX1_leastCost_81 : decode cX1_leastCost 81 = .ok (.ixor, 1) := by decide +kernel
theorem dX1_leastCost_82 : decode cX1_leastCost 82 = .ok (.iand, 1) := by decide +kernel
theorem dX1_leastCost_83 : decode cX1_leastCost 83 = .ok (.istore 5, 2) := by decide +kernel
theorem dX1_leastCost_85 : decode cX1_leastCost 85 = .ok (.ldc 57, 2) := by decide +kernel
theorem dX1_leastCost_87 : decode cX1_leastCost 87 = .ok (.istore 6, 2) := by decide +kernel
theorem dX1_leastCost_89 : decode cX1_leastCost 89 = .ok (.iload_n 3, 1) := by decide +kernel
theorem dX1_leastCost_90 : decode cX1_leastCost 90 = .ok (.iconst 1, 1) := by decide +kernel
theorem dX1_leastCost_91 : decode cX1_leastCost 91 = .ok (.iadd, 1) := by decide +kernel
theorem dX1_leastCost_92 : decode cX1_leastCost 92 = .ok (.istore 7, 2) := by decide +kernel
theorem dX1_leastCost_94 : decode cX1_leastCost 94 = .ok (.iload 7, 2) := by decide +kernel
theorem dX1_leastCost_96 : decode cX1_leastCost 96 = .ok (.aload_n 0, 1) := by decide +kernel
theorem dX1_leastCost_97 : decode cX1_leastCost 97 = .ok (.getfield 26, 3) := by decide +kernel
theorem dX1_leastCost_100 : decode cX1_leastCost 100 = .ok (.if_icmp .ge 69, 3) := by decide +kernel
theorem dX1_leastCost_103 : decode cX1_leastCost 103 = .ok (.iload 4, 2) := by decide +kernel
theorem dX1_leastCost_105 : decode cX1_leastCost 105 = .ok (.iconst 1, 1) := by decide +kernel
theorem dX1_leastCost_106 : decode cX1_leastCost 106 = .ok (.ishr, 1) := by decide +kernel
theorem dX1_leastCost_107 : decode cX1_leastCost 107 = .ok (.istore 4, 2) := by decide +kernel
theorem dX1_leastCost_109 : decode cX1_leastCost 109 = .ok (.aload_n 0, 1) := by decide +kernel
theorem dX1_leastCost_110 : decode cX1_leastCost 110 = .ok (.getfield 20, 3) := by decide +kernel
theorem dX1_leastCost_113 : decode cX1_leastCost 113 = .ok (.iload_n 3, 1) := by decide +kernel
theorem dX1_leastCost_114 : decode cX1_leastCost 114 = .ok (.aaload, 1) := by decide +kernel
theorem dX1_leastCost_115 : decode cX1_leastCost 115 = .ok (.iload 7, 2) := by decide +kernel
theorem dX1_leastCost_117 : decode cX1_leastCost 117 = .ok (.iaload, 1) := by decide +kernel
theorem dX1_leastCost_118 : decode cX1_leastCost 118 = .ok (.istore 8, 2) := by decide +kernel
theorem dX1_leastCost_120 : decode cX1_leastCost 120 = .ok (.iload 5, 2) := by decide +kernel
theorem dX1_leastCost_122 : decode cX1_leastCost 122 = .ok (.iload 4, 2) := by decide +kernel
theorem dX1_leastCost_124 : decode cX1_leastCost 124 = .ok (.iand, 1) := by decide +kernel
theorem dX1_leastCost_125 : decode cX1_leastCost 125 = .ok (.ifCond .eq 38, 3) := by decide +kernel
theorem dX1_leastCost_128 : decode cX1_leastCost 128 = .ok (.iload 8, 2) := by decide +kernel
theorem dX1_leastCost_130 : decode cX1_leastCost 130 = .ok (.iconst (-1), 1) := by decide +kernel
theorem dX1_leastCost_131 : decode cX1_leastCost 131 = .ok (.if_icmp .eq 32, 3) := by decide +kernel
theorem dX1_leastCost_134 : decode cX1_leastCost 134 = .ok (.iload 8, 2) := by decide +kernel
theorem dX1_leastCost_136 : decode cX1_leastCost 136 = .ok (.iload 6, 2) := by decide +kernel
theorem dX1_leastCost_138 : decode cX1_leastCost 138 = .ok (.if_icmp .ge 25, 3) := by decide +kernel
theorem dX1_leastCost_141 : decode cX1_leastCost 141 = .ok (.iload 6, 2) := by decide +kernel
theorem dX1_leastCost_143 : decode cX1_leastCost 143 = .ok (.iload 8, 2) := by decide +kernel
theorem dX1_leastCost_145 : decode cX1_leastCost 145 = .ok (.aload_n 0, 1) := by decide +kernel
theorem dX1_leastCost_146 : decode cX1_leastCost 146 = .ok (.iload_n 3, 1) := by decide +kernel
theorem dX1_leastCost_147 : decode cX1_leastCost 147 = .ok (.iconst 1, 1) := by decide +kernel
theorem dX1_leastCost_148 : decode cX1_leastCost 148 = .ok (.iadd, 1) := by decide +kernel
theorem dX1_leastCost_149 : decode cX1_leastCost 149 = .ok (.iload 5, 2) := by decide +kernel
theorem dX1_leastCost_151 : decode cX1_leastCost 151 = .ok (.iload 4, 2) := by decide +kernel
theorem dX1_leastCost_153 : decode cX1_leastCost 153 = .ok (.ixor, 1) := by decide +kernel
theorem dX1_leastCost_154 : decode cX1_leastCost 154 = .ok (.invokestatic 45, 3) := by decide +kernel
theorem dX1_leastCost_157 : decode cX1_leastCost 157 = .ok (.iadd, 1) := by decide +kernel
theorem dX1_leastCost_158 : decode cX1_leastCost 158 = .ok (.invokestatic 30, 3) := by decide +kernel
theorem dX1_leastCost_161 : decode cX1_leastCost 161 = .ok (.istore 6, 2) := by decide +kernel
theorem dX1_leastCost_163 : decode cX1_leastCost 163 = .ok (.iinc 7 1, 3) := by decide +kernel
theorem dX1_leastCost_166 : decode cX1_leastCost 166 = .ok (.goto (-72), 3) := by decide +kernel
theorem dX1_leastCost_169 : decode cX1_leastCost 169 = .ok (.iload 6, 2) := by decide +kernel
theorem dX1_leastCost_171 : decode cX1_leastCost 171 = .ok (.sipush 10000, 3) := by decide +kernel
theorem dX1_leastCost_174 : decode cX1_leastCost 174 = .ok (.if_icmp .le 23, 3) := by decide +kernel
theorem dX1_leastCost_177 : decode cX1_leastCost 177 = .ok (.iload 6, 2) := by decide +kernel
theorem dX1_leastCost_179 : decode cX1_leastCost 179 = .ok (.sipush 10000, 3) := by decide +kernel
theorem dX1_leastCost_182 : decode cX1_leastCost 182 = .ok (.aload_n 0, 1) := by decide +kernel
theorem dX1_leastCost_183 : decode cX1_leastCost 183 = .ok (.iload_n 3, 1) := by decide +kernel
theorem dX1_leastCost_184 : decode cX1_leastCost 184 = .ok (.iconst 1, 1) := by decide +kernel
theorem dX1_leastCost_185 : decode cX1_leastCost 185 = .ok (.iadd, 1) := by decide +kernel
theorem dX1_leastCost_186 : decode cX1_leastCost 186 = .ok (.iload 5, 2) := by decide +kernel
theorem dX1_leastCost_188 : decode cX1_leastCost 188 = .ok (.invokestatic 45, 3) := by decide +kernel
theorem dX1_leastCost_191 : decode cX1_leastCost 191 = .ok (.iadd, 1) := by decide +kernel
theorem dX1_leastCost_192 : decode cX1_leastCost 192 = .ok (.invokestatic 30, 3) := by decide +kernel
theorem dX1_leastCost_195 : decode cX1_leastCost 195 = .ok (.istore 6, 2) := by decide +kernel
theorem dX1_leastCost_197 : decode cX1_leastCost 197 = .ok (.iload_n 2, 1) := by decide +kernel
theorem dX1_leastCost_198 : decode cX1_leastCost 198 = .ok (.sipush 8192, 3) := by decide +kernel
theorem dX1_leastCost_201 : decode cX1_leastCost 201 = .ok (.if_icmp .ge 13, 3) := by decide +kernel
theorem dX1_leastCost_204 : decode cX1_leastCost 204 = .ok (.aload_n 0, 1) := by decide +kernel
theorem dX1_leastCost_205 : decode cX1_leastCost 205 = .ok (.getfield 23, 3) := by decide +kernel
theorem dX1_leastCost_208 : decode cX1_leastCost 208 = .ok (.iload_n 2, 1) := by decide +kernel
theorem dX1_leastCost_209 : decode cX1_leastCost 209 = .ok (.iload 6, 2) := by decide +kernel
theorem dX1_leastCost_211 : decode cX1_leastCost 211 = .ok (.iconst 1, 1) := by decide +kernel
theorem dX1_leastCost_212 : decode cX1_leastCost 212 = .ok (.iadd, 1) := by decide +kernel
theorem dX1_leastCost_213 : decode cX1_leastCost 213 = .ok (.iastore, 1) := by decide +kernel
theorem dX1_leastCost_214 : decode cX1_leastCost 214 = .ok (.iload 6, 2) := by decide +kernel
theorem dX1_leastCost_216 : decode cX1_leastCost 216 = .ok (.ireturn, 1) := by decide +kernel
theorem dX2_init_0 : decode cX2_init 0 = .ok (.aload_n 0, 1) := by decide +kernel
theorem dX2_init_1 : decode cX2_init 1 = .ok (.invokespecial 3, 3) := by decide +kernel
theorem dX2_init_4 : decode cX2_init 4 = .ok (.aload_n 0, 1) := by decide +kernel
theorem dX2_init_5 : decode cX2_init 5 = .ok (.bipush 6, 2) := by decide +kernel
theorem dX2_init_7 : decode cX2_init 7 = .ok (.newarray .int, 2) := by decide +kernel
theorem dX2_init_9 : decode cX2_init 9 = .ok (.putfield 9, 3) := by decide +kernel
theorem dX2_init_12 : decode cX2_init 12 = .ok (.return_, 1) := by decide +kernel
theorem dX2_found_0 : decode cX2_found 0 = .ok (.aload_n 0, 1) := by decide +kernel
theorem dX2_found_1 : decode cX2_found 1 = .ok (.iload_n 1, 1) := by decide +kernel
theorem dX2_found_2 : decode cX2_found 2 = .ok (.putfield 15, 3) := by decide +kernel
theorem dX2_found_5 : decode cX2_found 5 = .ok (.aload_n 0, 1) := by decide +kernel
theorem dX2_found_6 : decode cX2_found 6 = .ok (.getfield 9, 3) := by decide +kernel
theorem dX2_found_9 : decode cX2_found 9 = .ok (.iload_n 1, 1) := by decide +kernel
theorem dX2_found_10 : decode cX2_found 10 = .ok (.dup2, 1) := by decide +kernel
theorem dX2_found_11 : decode cX2_found 11 = .ok (.iaload, 1) := by decide +kernel
theorem dX2_found_12 : decode cX2_found 12 = .ok (.iconst 1, 1) := by decide +kernel
theorem dX2_found_13 : decode cX2_found 13 = .ok (.iadd, 1) := by decide +kernel
theorem dX2_found_14 : decode cX2_found 14 = .ok (.iastore, 1) := by decide +kernel
theorem dX2_found_15 : decode cX2_found 15 = .ok (.bipush (-3), 2) := by decide +kernel
theorem dX2_found_17 : decode cX2_found 17 = .ok (.ireturn, 1) := by decide +kernel
theorem dX3_init_0 : decode cX3_init 0 = .ok (.aload_n 0, 1) := by decide +kernel
theorem dX3_init_1 : decode cX3_init 1 = .ok (.invokespecial 3, 3) := by decide +kernel
theorem dX3_init_4 : decode cX3_init 4 = .ok (.aload_n 0, 1) := by decide +kernel
theorem dX3_init_5 : decode cX3_init 5 = .ok (.bipush 16, 2) := by decide +kernel
theorem dX3_init_7 : decode cX3_init 7 = .ok (.newarray .int, 2) := by decide +kernel
theorem dX3_init_9 : decode cX3_init 9 = .ok (.putfield 9, 3) := by decide +kernel
theorem dX3_init_12 : decode cX3_init 12 = .ok (.aload_n 0, 1) := by decide +kernel
theorem dX3_init_13 : decode cX3_init 13 = .ok (.bipush 16, 2) := by decide +kernel
theorem dX3_init_15 : decode cX3_init 15 = .ok (.newarray .int, 2) := by decide +kernel
theorem dX3_init_17 : decode cX3_init 17 = .ok (.putfield 15, 3) := by decide +kernel
theorem dX3_init_20 : decode cX3_init 20 = .ok (.aload_n 0, 1) := by decide +kernel
theorem dX3_init_21 : decode cX3_init 21 = .ok (.bipush 16, 2) := by decide +kernel
theorem dX3_init_23 : decode cX3_init 23 = .ok (.newarray .int, 2) := by decide +kernel
theorem dX3_init_25 : decode cX3_init 25 = .ok (.putfield 18, 3) := by decide +kernel
theorem dX3_init_28 : decode cX3_init 28 = .ok (.aload_n 0, 1) := by decide +kernel
theorem dX3_init_29 : decode cX3_init 29 = .ok (.bipush 16, 2) := by decide +kernel
theorem dX3_init_31 : decode cX3_init 31 = .ok (.newarray .int, 2) := by decide +kernel
theorem dX3_init_33 : decode cX3_init 33 = .ok (.putfield 21, 3) := by decide +kernel
theorem dX3_init_36 : decode cX3_init 36 = .ok (.aload_n 0, 1) := by decide +kernel
theorem dX3_init_37 : decode cX3_init 37 = .ok (.bipush 16, 2) := by decide +kernel
theorem dX3_init_39 : decode cX3_init 39 = .ok (.newarray .int, 2) := by decide +kernel
theorem dX3_init_41 : decode cX3_init 41 = .ok (.putfield 24, 3) := by decide +kernel
theorem dX3_init_44 : decode cX3_init 44 = .ok (.aload_n 0, 1) := by decide +kernel
theorem dX3_init_45 : decode cX3_init 45 = .ok (.bipush 16, 2) := by decide +kernel
theorem dX3_init_47 : decode cX3_init 47 = .ok (.newarray .int, 2) := by decide +kernel
theorem dX3_init_49 : decode cX3_init 49 = .ok (.putfield 27, 3) := by decide +kernel
theorem dX3_init_52 : decode cX3_init 52 = .ok (.aload_n 0, 1) := by decide +kernel
theorem dX3_init_53 : decode cX3_init 53 = .ok (.bipush 16, 2) := by decide +kernel
theorem dX3_init_55 : decode cX3_init 55 = .ok (.newarray .int, 2) := by decide +kernel
theorem dX3_init_57 : decode cX3_init 57 = .ok (.putfield 30, 3) := by decide +kernel
theorem dX3_init_60 : decode cX3_init 60 = .ok (.aload_n 0, 1) := by decide +kernel
theorem dX3_init_61 : decode cX3_init 61 = .ok (.bipush 16, 2) := by decide +kernel
theorem dX3_init_63 : decode cX3_init 63 = .ok (.newarray .int, 2) := by decide +kernel
theorem dX3_init_65 : decode cX3_init 65 = .ok (.putfield 33, 3) := by decide +kernel
theorem dX3_init_68 : decode cX3_init 68 = .ok (.aload_n 0, 1) := by decide +kernel
theorem dX3_init_69 : decode cX3_init 69 = .ok (.bipush 16, 2) := by decide +kernel
theorem dX3_init_71 : decode cX3_init 71 = .ok (.newarray .boolean, 2) := by decide +kernel
theorem dX3_init_73 : decode cX3_init 73 = .ok (.putfield 36, 3) := by decide +kernel
theorem dX3_init_76 : decode cX3_init 76 = .ok (.aload_n 0, 1) := by decide +kernel
theorem dX3_init_77 : decode cX3_init 77 = .ok (.bipush 16, 2) := by decide +kernel
theorem dX3_init_79 : decode cX3_init 79 = .ok (.newarray .boolean, 2) := by decide +kernel
theorem dX3_init_81 : decode cX3_init 81 = .ok (.putfield 40, 3) := by decide +kernel
theorem dX3_init_84 : decode cX3_init 84 = .ok (.aload_n 0, 1) := by decide +kernel
theorem dX3_init_85 : decode cX3_init 85 = .ok (.bipush 16, 2) := by decide +kernel
theorem dX3_init_87 : decode cX3_init 87 = .ok (.newarray .int, 2) := by decide +kernel
theorem dX3_init_89 : decode cX3_init 89 = .ok (.putfield 43, 3) := by decide +kernel
theorem dX3_init_92 : decode cX3_init 92 = .ok (.return_, 1) := by decide +kernel
theorem dX3_knows_0 : decode cX3_knows 0 = .ok (.iload_n 1, 1) := by decide +kernel
theorem dX3_knows_1 : decode cX3_knows 1 = .ok (.ifCond .lt 15, 3) := by decide +kernel
theorem dX3_knows_4 : decode cX3_knows 4 = .ok (.iload_n 1, 1) := by decide +kernel
theorem dX3_knows_5 : decode cX3_knows 5 = .ok (.aload_n 0, 1) := by decide +kernel
theorem dX3_knows_6 : decode cX3_knows 6 = .ok (.getfield 46, 3) := by decide +kernel
theorem dX3_knows_9 : decode cX3_knows 9 = .ok (.if_icmp .ge 7, 3) := by decide +kernel
theorem dX3_knows_12 : decode cX3_knows 12 = .ok (.iconst 1, 1) := by decide +kernel
theorem dX3_knows_13 : decode cX3_knows 13 = .ok (.goto 4, 3) := by decide +kernel
theorem dX3_knows_16 : decode cX3_knows 16 = .ok (.iconst 0, 1) := by decide +kernel
theorem dX3_knows_17 : decode cX3_knows 17 = .ok (.ireturn, 1) := by decide +kernel
theorem dX3_isOf_0 : decode cX3_isOf 0 = .ok (.iload_n 2, 1) := by decide +kernel
theorem dX3_isOf_1 : decode cX3_isOf 1 = .ok (.ifCond .eq 13, 3) := by decide +kernel
theorem dX3_isOf_4 : decode cX3_isOf 4 = .ok (.aload_n 0, 1) := by decide +kernel
theorem dX3_isOf_5 : decode cX3_isOf 5 = .ok (.getfield 9, 3) := by decide +kernel
theorem dX3_isOf_8 : decode cX3_isOf 8 = .ok (.iload_n 1, 1) := by decide +kernel
theorem dX3_isOf_9 : decode cX3_isOf 9 = .ok (.iaload, 1) := by decide +kernel
theorem dX3_isOf_10 : decode cX3_isOf 10 = .ok (.iload_n 2, 1) := by decide +kernel
theorem dX3_isOf_11 : decode cX3_isOf 11 = .ok (.if_icmp .ne 7, 3) := by decide +kernel
theorem dX3_isOf_14 : decode cX3_isOf 14 = .ok (.iconst 1, 1) := by decide +kernel
theorem dX3_isOf_15 : decode cX3_isOf 15 = .ok (.goto 4, 3) := by decide +kernel
theorem dX3_isOf_18 : decode cX3_isOf 18 = .ok (.iconst 0, 1) := by decide +kernel
theorem dX3_isOf_19 : decode cX3_isOf 19 = .ok (.ireturn, 1) := by decide +kernel
theorem dX3_add_0 : decode cX3_add 0 = .ok (.aload_n 0, 1) := by decide +kernel
theorem dX3_add_1 : decode cX3_add 1 = .ok (.getfield 46, 3) := by decide +kernel
theorem dX3_add_4 : decode cX3_add 4 = .ok (.istore 4, 2) := by decide +kernel
theorem dX3_add_6 : decode cX3_add 6 = .ok (.aload_n 0, 1) := by decide +kernel
theorem dX3_add_7 : decode cX3_add 7 = .ok (.getfield 9, 3) := by decide +kernel
theorem dX3_add_10 : decode cX3_add 10 = .ok (.iload 4, 2) := by decide +kernel
theorem dX3_add_12 : decode cX3_add 12 = .ok (.iload_n 1, 1) := by decide +kernel
theorem dX3_add_13 : decode cX3_add 13 = .ok (.iastore, 1) := by decide +kernel
theorem dX3_add_14 : decode cX3_add 14 = .ok (.aload_n 0, 1) := by decide +kernel
theorem dX3_add_15 : decode cX3_add 15 = .ok (.getfield 15, 3) := by decide +kernel
theorem dX3_add_18 : decode cX3_add 18 = .ok (.iload 4, 2) := by decide +kernel
theorem dX3_add_20 : decode cX3_add 20 = .ok (.iload_n 2, 1) := by decide +kernel
theorem dX3_add_21 : decode cX3_add 21 = .ok (.iastore, 1) := by decide +kernel
theorem dX3_add_22 : decode cX3_add 22 = .ok (.aload_n 0, 1) := by decide +kernel
theorem dX3_add_23 : decode cX3_add 23 = .ok (.getfield 18, 3) := by decide +kernel
theorem dX3_add_26 : decode cX3_add 26 = .ok (.iload 4, 2) := by decide +kernel
theorem dX3_add_28 : decode cX3_add 28 = .ok (.iload_n 3, 1) := by decide +kernel
theorem dX3_add_29 : decode cX3_add 29 = .ok (.iastore, 1) := by decide +kernel
theorem dX3_add_30 : decode cX3_add 30 = .ok (.aload_n 0, 1) := by decide +kernel
theorem dX3_add_31 : decode cX3_add 31 = .ok (.iload 4, 2) := by decide +kernel
theorem dX3_add_33 : decode cX3_add 33 = .ok (.aload_n 0, 1) := by decide +kernel
theorem dX3_add_34 : decode cX3_add 34 = .ok (.getfield 50, 3) := by decide +kernel
theorem dX3_add_37 : decode cX3_add 37 = .ok (.invokevirtual 53, 3) := by decide +kernel
theorem dX3_add_40 : decode cX3_add 40 = .ok (.aload_n 0, 1) := by decide +kernel
theorem dX3_add_41 : decode cX3_add 41 = .ok (.dup, 1) := by decide +kernel
theorem dX3_add_42 : decode cX3_add 42 = .ok (.getfield 46, 3) := by decide +kernel
theorem dX3_add_45 : decode cX3_add 45 = .ok (.iconst 1, 1) := by decide +kernel
theorem dX3_add_46 : decode cX3_add 46 = .ok (.iadd, 1) := by decide +kernel
theorem dX3_add_47 : decode cX3_add 47 = .ok (.putfield 46, 3) := by decide +kernel
theorem dX3_add_50 : decode cX3_add 50 = .ok (.aload_n 0, 1) := by decide +kernel
theorem dX3_add_51 : decode cX3_add 51 = .ok (.dup, 1) := by decide +kernel
theorem dX3_add_52 : decode cX3_add 52 = .ok (.getfield 50, 3) := by decide +kernel
theorem dX3_add_55 : decode cX3_add 55 = .ok (.iconst 1, 1) := by decide +kernel
theorem dX3_add_56 : decode cX3_add 56 = .ok (.iadd, 1) := by decide +kernel
theorem dX3_add_57 : decode cX3_add 57 = .ok (.putfield 50, 3) := by decide +kernel
theorem dX3_add_60 : decode cX3_add 60 = .ok (.iload 4, 2) := by decide +kernel
theorem dX3_add_62 : decode cX3_add 62 = .ok (.ireturn, 1) := by decide +kernel
theorem dX3_remove_0 : decode cX3_remove 0 = .ok (.aload_n 0, 1) := by decide +kernel
theorem dX3_remove_1 : decode cX3_remove 1 = .ok (.getfield 21, 3) := by decide +kernel
theorem dX3_remove_4 : decode cX3_remove 4 = .ok (.iload_n 1, 1) := by decide +kernel
theorem dX3_remove_5 : decode cX3_remove 5 = .ok (.iaload, 1) := by decide +kernel
theorem dX3_remove_6 : decode cX3_remove 6 = .ok (.istore_n 2, 1) := by decide +kernel
theorem dX3_remove_7 : decode cX3_remove 7 = .ok (.aload_n 0, 1) := by decide +kernel
theorem dX3_remove_8 : decode cX3_remove 8 = .ok (.getfield 36, 3) := by decide +kernel
theorem dX3_remove_11 : decode cX3_remove 11 = .ok (.iload_n 1, 1) := by decide +kernel
theorem dX3_remove_12 : decode cX3_remove 12 = .ok (.iconst 1, 1) := by decide +kernel
theorem dX3_remove_13 : decode cX3_remove 13 = .ok (.bastore, 1) := by decide +kernel
theorem dX3_remove_14 : decode cX3_remove 14 = .ok (.aload_n 0, 1) := by decide +kernel
theorem dX3_remove_15 : decode cX3_remove 15 = .ok (.dup, 1) := by decide +kernel
theorem dX3_remove_16 : decode cX3_remove 16 = .ok (.getfield 50, 3) := by decide +kernel
theorem dX3_remove_19 : decode cX3_remove 19 = .ok (.iconst 1, 1) := by decide +kernel
theorem dX3_remove_20 : decode cX3_remove 20 = .ok (.isub, 1) := by decide +kernel
theorem dX3_remove_21 : decode cX3_remove 21 = .ok (.putfield 50, 3) := by decide +kernel
theorem dX3_remove_24 : decode cX3_remove 24 = .ok (.iload_n 2, 1) := by decide +kernel
theorem dX3_remove_25 : decode cX3_remove 25 = .ok (.istore_n 3, 1) := by decide +kernel
theorem dX3_remove_26 : decode cX3_remove 26 = .ok (.iload_n 3, 1) := by decide +kernel
theorem dX3_remove_27 : decode cX3_remove 27 = .ok (.aload_n 0, 1) := by decide +kernel
theorem dX3_remove_28 : decode cX3_remove 28 = .ok (.getfield 50, 3) := by decide +kernel
theorem dX3_remove_31 : decode cX3_remove 31 = .ok (.if_icmp .ge 22, 3) := by decide +kernel
theorem dX3_remove_34 : decode cX3_remove 34 = .ok (.aload_n 0, 1) := by decide +kernel
theorem dX3_remove_35 : decode cX3_remove 35 = .ok (.aload_n 0, 1) := by decide +kernel
theorem dX3_remove_36 : decode cX3_remove 36 = .ok (.getfield 43, 3) := by decide +kernel
theorem dX3_remove_39 : decode cX3_remove 39 = .ok (.iload_n 3, 1) := by decide +kernel
theorem dX3_remove_40 : decode cX3_remove 40 = .ok (.iconst 1, 1) := by decide +kernel
theorem dX3_remove_41 : decode cX3_remove 41 = .ok (.iadd, 1) := by decide +kernel
theorem dX3_remove_42 : decode cX3_remove 42 = .ok (.iaload, 1) := by decide +kernel
theorem dX3_remove_43 : decode cX3_remove 43 = .ok (.iload_n 3, 1) := by decide +kernel
theorem dX3_remove_44 : decode cX3_remove 44 = .ok (.invokevirtual 53, 3) := by decide +kernel
theorem dX3_remove_47 : decode cX3_remove 47 = .ok (.iinc 3 1, 3) := by decide +kernel
theorem dX3_remove_50 : decode cX3_remove 50 = .ok (.goto (-24), 3) := by decide +kernel
theorem dX3_remove_53 : decode cX3_remove 53 = .ok (.iload_n 2, 1) := by decide +kernel
theorem dX3_remove_54 : decode cX3_remove 54 = .ok (.ireturn, 1) := by decide +kernel
theorem dX3_place_0 : decode cX3_place 0 = .ok (.aload_n 0, 1) := by decide +kernel
theorem dX3_place_1 : decode cX3_place 1 = .ok (.getfield 43, 3) := by decide +kernel
theorem dX3_place_4 : decode cX3_place 4 = .ok (.iload_n 2, 1) := by decide +kernel
theorem dX3_place_5 : decode cX3_place 5 = .ok (.iload_n 1, 1) := by decide +kernel
theorem dX3_place_6 : decode cX3_place 6 = .ok (.iastore, 1) := by decide +kernel
theorem dX3_place_7 : decode cX3_place 7 = .ok (.aload_n 0, 1) := by decide +kernel
theorem dX3_place_8 : decode cX3_place 8 = .ok (.getfield 21, 3) := by decide +kernel
theorem dX3_place_11 : decode cX3_place 11 = .ok (.iload_n 1, 1) := by decide +kernel
theorem dX3_place_12 : decode cX3_place 12 = .ok (.iload_n 2, 1) := by decide +kernel
theorem dX3_place_13 : decode cX3_place 13 = .ok (.iastore, 1) := by decide +kernel
theorem dX3_place_14 : decode cX3_place 14 = .ok (.return_, 1) := by decide +kernel
theorem dX3_clearScores_0 : decode cX3_clearScores 0 = .ok (.aload_n 0, 1) := by decide +kernel
theorem dX3_clearScores_1 : decode cX3_clearScores 1 = .ok (.getfield 24, 3) := by decide +kernel
theorem dX3_clearScores_4 : decode cX3_clearScores 4 = .ok (.iconst 0, 1) := by decide +kernel
theorem dX3_clearScores_5 : decode cX3_clearScores 5 = .ok (.invokestatic 57, 3) := by decide +kernel
theorem dX3_clearScores_8 : decode cX3_clearScores 8 = .ok (.aload_n 0, 1) := by decide +kernel
theorem dX3_clearScores_9 : decode cX3_clearScores 9 = .ok (.getfield 27, 3) := by decide +kernel
theorem dX3_clearScores_12 : decode cX3_clearScores 12 = .ok (.iconst 0, 1) := by decide +kernel
theorem dX3_clearScores_13 : decode cX3_clearScores 13 = .ok (.invokestatic 57, 3) := by decide +kernel
theorem dX3_clearScores_16 : decode cX3_clearScores 16 = .ok (.return_, 1) := by decide +kernel
theorem dX3_mostWins_0 : decode cX3_mostWins 0 = .ok (.iconst 0, 1) := by decide +kernel
theorem dX3_mostWins_1 : decode cX3_mostWins 1 = .ok (.istore_n 1, 1) := by decide +kernel
theorem dX3_mostWins_2 : decode cX3_mostWins 2 = .ok (.iconst 0, 1) := by decide +kernel
theorem dX3_mostWins_3 : decode cX3_mostWins 3 = .ok (.istore_n 2, 1) := by decide +kernel
theorem dX3_mostWins_4 : decode cX3_mostWins 4 = .ok (.iload_n 2, 1) := by decide +kernel
theorem dX3_mostWins_5 : decode cX3_mostWins 5 = .ok (.aload_n 0, 1) := by decide +kernel
theorem dX3_mostWins_6 : decode cX3_mostWins 6 = .ok (.getfield 50, 3) := by decide +kernel
theorem dX3_mostWins_9 : decode cX3_mostWins 9 = .ok (.if_icmp .ge 25, 3) := by decide +kernel
theorem dX3_mostWins_12 : decode cX3_mostWins 12 = .ok (.iload_n 1, 1) := by decide +kernel
theorem dX3_mostWins_13 : decode cX3_mostWins 13 = .ok (.aload_n 0, 1) := by decide +kernel
theorem dX3_mostWins_14 : decode cX3_mostWins 14 = .ok (.getfield 24, 3) := by decide +kernel
theorem dX3_mostWins_17 : decode cX3_mostWins 17 = .ok (.aload_n 0, 1) := by decide +kernel
theorem dX3_mostWins_18 : decode cX3_mostWins 18 = .ok (.getfield 43, 3) := by decide +kernel
theorem dX3_mostWins_21 : decode cX3_mostWins 21 = .ok (.iload_n 2, 1) := by decide +kernel
theorem dX3_mostWins_22 : decode cX3_mostWins 22 = .ok (.iaload, 1) := by decide +kernel
theorem dX3_mostWins_23 : decode cX3_mostWins 23 = .ok (.iaload, 1) := by decide +kernel
theorem dX3_mostWins_24 : decode cX3_mostWins 24 = .ok (.invokestatic 63, 3) := by decide +kernel
theorem dX3_mostWins_27 : decode cX3_mostWins 27 = .ok (.istore_n 1, 1) := by decide +kernel
theorem dX3_mostWins_28 : decode cX3_mostWins 28 = .ok (.iinc 2 1, 3) := by decide +kernel
theorem dX3_mostWins_31 : decode cX3_mostWins 31 = .ok (.goto (-27), 3) := by decide +kernel
theorem dX3_mostWins_34 : decode cX3_mostWins 34 = .ok (.iload_n 1, 1) := by decide +kernel
theorem dX3_mostWins_35 : decode cX3_mostWins 35 = .ok (.ireturn, 1) := by decide +kernel
theorem dX3_fact_0 : decode cX3_fact 0 = .ok (.iload_n 2, 1) := by decide +kernel
theorem dX3_fact_1 : decode cX3_fact 1 = .ok (.tableswitch 81 0 5 #[39, 46, 53, 60, 67, 74], 39) := by decide +kernel
theorem dX3_fact_40 : decode cX3_fact 40 = .ok (.aload_n 0, 1) := by decide +kernel
theorem dX3_fact_41 : decode cX3_fact 41 = .ok (.getfield 9, 3) := by decide +kernel
theorem dX3_fact_44 : decode cX3_fact 44 = .ok (.iload_n 1, 1) := by decide +kernel
theorem dX3_fact_45 : decode cX3_fact 45 = .ok (.iaload, 1) := by decide +kernel
theorem dX3_fact_46 : decode cX3_fact 46 = .ok (.ireturn, 1) := by decide +kernel
theorem dX3_fact_47 : decode cX3_fact 47 = .ok (.aload_n 0, 1) := by decide +kernel
theorem dX3_fact_48 : decode cX3_fact 48 = .ok (.getfield 15, 3) := by decide +kernel
theorem dX3_fact_51 : decode cX3_fact 51 = .ok (.iload_n 1, 1) := by decide +kernel
theorem dX3_fact_52 : decode cX3_fact 52 = .ok (.iaload, 1) := by decide +kernel
theorem dX3_fact_53 : decode cX3_fact 53 = .ok (.ireturn, 1) := by decide +kernel
theorem dX3_fact_54 : decode cX3_fact 54 = .ok (.aload_n 0, 1) := by decide +kernel
theorem dX3_fact_55 : decode cX3_fact 55 = .ok (.getfield 18, 3) := by decide +kernel
theorem dX3_fact_58 : decode cX3_fact 58 = .ok (.iload_n 1, 1) := by decide +kernel
theorem dX3_fact_59 : decode cX3_fact 59 = .ok (.iaload, 1) := by decide +kernel
theorem dX3_fact_60 : decode cX3_fact 60 = .ok (.ireturn, 1) := by decide +kernel
theorem dX3_fact_61 : decode cX3_fact 61 = .ok (.aload_n 0, 1) := by decide +kernel
theorem dX3_fact_62 : decode cX3_fact 62 = .ok (.getfield 21, 3) := by decide +kernel
theorem dX3_fact_65 : decode cX3_fact 65 = .ok (.iload_n 1, 1) := by decide +kernel
theorem dX3_fact_66 : decode cX3_fact 66 = .ok (.iaload, 1) := by decide +kernel
theorem dX3_fact_67 : decode cX3_fact 67 = .ok (.ireturn, 1) := by decide +kernel
theorem dX3_fact_68 : decode cX3_fact 68 = .ok (.aload_n 0, 1) := by decide +kernel
theorem dX3_fact_69 : decode cX3_fact 69 = .ok (.getfield 24, 3) := by decide +kernel
theorem dX3_fact_72 : decode cX3_fact 72 = .ok (.iload_n 1, 1) := by decide +kernel
theorem dX3_fact_73 : decode cX3_fact 73 = .ok (.iaload, 1) := by decide +kernel
theorem dX3_fact_74 : decode cX3_fact 74 = .ok (.ireturn, 1) := by decide +kernel
theorem dX3_fact_75 : decode cX3_fact 75 = .ok (.aload_n 0, 1) := by decide +kernel
theorem dX3_fact_76 : decode cX3_fact 76 = .ok (.getfield 27, 3) := by decide +kernel
theorem dX3_fact_79 : decode cX3_fact 79 = .ok (.iload_n 1, 1) := by decide +kernel
theorem dX3_fact_80 : decode cX3_fact 80 = .ok (.iaload, 1) := by decide +kernel
theorem dX3_fact_81 : decode cX3_fact 81 = .ok (.ireturn, 1) := by decide +kernel
theorem dX3_fact_82 : decode cX3_fact 82 = .ok (.aload_n 0, 1) := by decide +kernel
theorem dX3_fact_83 : decode cX3_fact 83 = .ok (.getfield 30, 3) := by decide +kernel
theorem dX3_fact_86 : decode cX3_fact 86 = .ok (.iload_n 1, 1) := by decide +kernel
theorem dX3_fact_87 : decode cX3_fact 87 = .ok (.iaload, 1) := by decide +kernel
theorem dX3_fact_88 : decode cX3_fact 88 = .ok (.ireturn, 1) := by decide +kernel
theorem dX4_init_0 : decode cX4_init 0 = .ok (.aload_n 0, 1) := by decide +kernel
theorem dX4_init_1 : decode cX4_init 1 = .ok (.invokespecial 3, 3) := by decide +kernel
theorem dX4_init_4 : decode cX4_init 4 = .ok (.aload_n 0, 1) := by decide +kernel
theorem dX4_init_5 : decode cX4_init 5 = .ok (.iconst 4, 1) := by decide +kernel
theorem dX4_init_6 : decode cX4_init 6 = .ok (.bipush 16, 2) := by decide +kernel
theorem dX4_init_8 : decode cX4_init 8 = .ok (.multianewarray 9 2, 4) := by decide +kernel
theorem dX4_init_12 : decode cX4_init 12 = .ok (.putfield 11, 3) := by decide +kernel
theorem dX4_init_15 : decode cX4_init 15 = .ok (.aload_n 0, 1) := by decide +kernel
theorem dX4_init_16 : decode cX4_init 16 = .ok (.iconst 4, 1) := by decide +kernel
theorem dX4_init_17 : decode cX4_init 17 = .ok (.newarray .int, 2) := by decide +kernel
theorem dX4_init_19 : decode cX4_init 19 = .ok (.putfield 16, 3) := by decide +kernel
theorem dX4_init_22 : decode cX4_init 22 = .ok (.aload_n 0, 1) := by decide +kernel
theorem dX4_init_23 : decode cX4_init 23 = .ok (.bipush (-9), 2) := by decide +kernel
theorem dX4_init_25 : decode cX4_init 25 = .ok (.putfield 20, 3) := by decide +kernel
theorem dX4_init_28 : decode cX4_init 28 = .ok (.aload_n 0, 1) := by decide +kernel
theorem dX4_init_29 : decode cX4_init 29 = .ok (.getfield 16, 3) := by decide +kernel
theorem dX4_init_32 : decode cX4_init 32 = .ok (.iconst (-1), 1) := by decide +kernel
theorem dX4_init_33 : decode cX4_init 33 = .ok (.invokestatic 24, 3) := by decide +kernel
theorem dX4_init_36 : decode cX4_init 36 = .ok (.return_, 1) := by decide +kernel
theorem dX4_isMissing_0 : decode cX4_isMissing 0 = .ok (.aload_n 0, 1) := by decide +kernel
theorem dX4_isMissing_1 : decode cX4_isMissing 1 = .ok (.getfield 16, 3) := by decide +kernel
theorem dX4_isMissing_4 : decode cX4_isMissing 4 = .ok (.iload_n 1, 1) := by decide +kernel
theorem dX4_isMissing_5 : decode cX4_isMissing 5 = .ok (.iaload, 1) := by decide +kernel
theorem dX4_isMissing_6 : decode cX4_isMissing 6 = .ok (.iconst (-1), 1) := by decide +kernel
theorem dX4_isMissing_7 : decode cX4_isMissing 7 = .ok (.if_icmp .ne 7, 3) := by decide +kernel
theorem dX4_isMissing_10 : decode cX4_isMissing 10 = .ok (.iconst 1, 1) := by decide +kernel
theorem dX4_isMissing_11 : decode cX4_isMissing 11 = .ok (.goto 4, 3) := by decide +kernel
theorem dX4_isMissing_14 : decode cX4_isMissing 14 = .ok (.iconst 0, 1) := by decide +kernel
theorem dX4_isMissing_15 : decode cX4_isMissing 15 = .ok (.ireturn, 1) := by decide +kernel
theorem dX4_blank_0 : decode cX4_blank 0 = .ok (.aload_n 0, 1) := by decide +kernel
theorem dX4_blank_1 : decode cX4_blank 1 = .ok (.getfield 11, 3) := by decide +kernel
theorem dX4_blank_4 : decode cX4_blank 4 = .ok (.iload_n 1, 1) := by decide +kernel
theorem dX4_blank_5 : decode cX4_blank 5 = .ok (.aaload, 1) := by decide +kernel
theorem dX4_blank_6 : decode cX4_blank 6 = .ok (.iconst 0, 1) := by decide +kernel
theorem dX4_blank_7 : decode cX4_blank 7 = .ok (.invokestatic 30, 3) := by decide +kernel
theorem dX4_blank_10 : decode cX4_blank 10 = .ok (.aload_n 0, 1) := by decide +kernel
theorem dX4_blank_11 : decode cX4_blank 11 = .ok (.getfield 16, 3) := by decide +kernel
theorem dX4_blank_14 : decode cX4_blank 14 = .ok (.iload_n 1, 1) := by decide +kernel
theorem dX4_blank_15 : decode cX4_blank 15 = .ok (.iload_n 2, 1) := by decide +kernel
theorem dX4_blank_16 : decode cX4_blank 16 = .ok (.iastore, 1) := by decide +kernel
theorem dX4_blank_17 : decode cX4_blank 17 = .ok (.return_, 1) := by decide +kernel
theorem dX4_replace_0 : decode cX4_replace 0 = .ok (.aload_n 0, 1) := by decide +kernel
theorem dX4_replace_1 : decode cX4_replace 1 = .ok (.getfield 11, 3) := by decide +kernel
theorem dX4_replace_4 : decode cX4_replace 4 = .ok (.iload_n 1, 1) := by decide +kernel
theorem dX4_replace_5 : decode cX4_replace 5 = .ok (.aaload, 1) := by decide +kernel
theorem dX4_replace_6 : decode cX4_replace 6 = .ok (.iload_n 2, 1) := by decide +kernel
theorem dX4_replace_7 : decode cX4_replace 7 = .ok (.baload, 1) := by decide +kernel
theorem dX4_replace_8 : decode cX4_replace 8 = .ok (.istore 4, 2) := by decide +kernel
theorem dX4_replace_10 : decode cX4_replace 10 = .ok (.aload_n 0, 1) := by decide +kernel
theorem dX4_replace_11 : decode cX4_replace 11 = .ok (.getfield 11, 3) := by decide +kernel
theorem dX4_replace_14 : decode cX4_replace 14 = .ok (.iload_n 1, 1) := by decide +kernel
theorem dX4_replace_15 : decode cX4_replace 15 = .ok (.aaload, 1) := by decide +kernel
theorem dX4_replace_16 : decode cX4_replace 16 = .ok (.iload_n 2, 1) := by decide +kernel
theorem dX4_replace_17 : decode cX4_replace 17 = .ok (.iload_n 3, 1) := by decide +kernel
theorem dX4_replace_18 : decode cX4_replace 18 = .ok (.bastore, 1) := by decide +kernel
theorem dX4_replace_19 : decode cX4_replace 19 = .ok (.iload 4, 2) := by decide +kernel
theorem dX4_replace_21 : decode cX4_replace 21 = .ok (.ireturn, 1) := by decide +kernel
theorem dX4_holds_0 : decode cX4_holds 0 = .ok (.iload_n 2, 1) := by decide +kernel
theorem dX4_holds_1 : decode cX4_holds 1 = .ok (.ifCond .lt 33, 3) := by decide +kernel
theorem dX4_holds_4 : decode cX4_holds 4 = .ok (.iload_n 3, 1) := by decide +kernel
theorem dX4_holds_5 : decode cX4_holds 5 = .ok (.ifCond .lt 29, 3) := by decide +kernel
theorem dX4_holds_8 : decode cX4_holds 8 = .ok (.iload_n 3, 1) := by decide +kernel
theorem dX4_holds_9 : decode cX4_holds 9 = .ok (.aload_n 0, 1) := by decide +kernel
theorem dX4_holds_10 : decode cX4_holds 10 = .ok (.getfield 16, 3) := by decide +kernel
theorem dX4_holds_13 : decode cX4_holds 13 = .ok (.iload_n 1, 1) := by decide +kernel
theorem dX4_holds_14 : decode cX4_holds 14 = .ok (.iaload, 1) := by decide +kernel
theorem dX4_holds_15 : decode cX4_holds 15 = .ok (.if_icmp .gt 19, 3) := by decide +kernel
theorem dX4_holds_18 : decode cX4_holds 18 = .ok (.iload_n 2, 1) := by decide +kernel
theorem dX4_holds_19 : decode cX4_holds 19 = .ok (.aload_n 0, 1) := by decide +kernel
theorem dX4_holds_20 : decode cX4_holds 20 = .ok (.getfield 16, 3) := by decide +kernel
theorem dX4_holds_23 : decode cX4_holds 23 = .ok (.iload_n 1, 1) := by decide +kernel
theorem dX4_holds_24 : decode cX4_holds 24 = .ok (.iaload, 1) := by decide +kernel
theorem dX4_holds_25 : decode cX4_holds 25 = .ok (.iload_n 3, 1) := by decide +kernel
theorem dX4_holds_26 : decode cX4_holds 26 = .ok (.isub, 1) := by decide +kernel
theorem dX4_holds_27 : decode cX4_holds 27 = .ok (.if_icmp .gt 7, 3) := by decide +kernel
theorem dX4_holds_30 : decode cX4_holds 30 = .ok (.iconst 1, 1) := by decide +kernel
theorem dX4_holds_31 : decode cX4_holds 31 = .ok (.goto 4, 3) := by decide +kernel
theorem dX4_holds_34 : decode cX4_holds 34 = .ok (.iconst 0, 1) := by decide +kernel
theorem dX4_holds_35 : decode cX4_holds 35 = .ok (.ireturn, 1) := by decide +kernel
theorem dX4_priceOf_0 : decode cX4_priceOf 0 = .ok (.aload_n 0, 1) := by decide +kernel
theorem dX4_priceOf_1 : decode cX4_priceOf 1 = .ok (.getfield 20, 3) := by decide +kernel
theorem dX4_priceOf_4 : decode cX4_priceOf 4 = .ok (.bipush (-9), 2) := by decide +kernel
theorem dX4_priceOf_6 : decode cX4_priceOf 6 = .ok (.if_icmp .eq 14, 3) := by decide +kernel
theorem dX4_priceOf_9 : decode cX4_priceOf 9 = .ok (.aload_n 0, 1) := by decide +kernel
theorem dX4_priceOf_10 : decode cX4_priceOf 10 = .ok (.aload_n 0, 1) := by decide +kernel
theorem dX4_priceOf_11 : decode cX4_priceOf 11 = .ok (.getfield 20, 3) := by decide +kernel
theorem dX4_priceOf_14 : decode cX4_priceOf 14 = .ok (.invokevirtual 33, 3) := by decide +kernel
theorem dX4_priceOf_17 : decode cX4_priceOf 17 = .ok (.ifCond .eq 9, 3) := by decide +kernel
theorem dX4_priceOf_20 : decode cX4_priceOf 20 = .ok (.iload_n 1, 1) := by decide +kernel
theorem dX4_priceOf_21 : decode cX4_priceOf 21 = .ok (.iload_n 1, 1) := by decide +kernel
theorem dX4_priceOf_22 : decode cX4_priceOf 22 = .ok (.imul, 1) := by decide +kernel
theorem dX4_priceOf_23 : decode cX4_priceOf 23 = .ok (.iconst 4, 1) := by decide +kernel
theorem dX4_priceOf_24 : decode cX4_priceOf 24 = .ok (.imul, 1) := by decide +kernel
theorem dX4_priceOf_25 : decode cX4_priceOf 25 = .ok (.ireturn, 1) := by decide +kernel
theorem dX4_priceOf_26 : decode cX4_priceOf 26 = .ok (.aload_n 0, 1) := by decide +kernel
theorem dX4_priceOf_27 : decode cX4_priceOf 27 = .ok (.getfield 16, 3) := by decide +kernel
theorem dX4_priceOf_30 : decode cX4_priceOf 30 = .ok (.aload_n 0, 1) := by decide +kernel
theorem dX4_priceOf_31 : decode cX4_priceOf 31 = .ok (.getfield 20, 3) := by decide +kernel
theorem dX4_priceOf_34 : decode cX4_priceOf 34 = .ok (.iaload, 1) := by decide +kernel
theorem dX4_priceOf_35 : decode cX4_priceOf 35 = .ok (.ifCond .ne 5, 3) := by decide +kernel
theorem dX4_priceOf_38 : decode cX4_priceOf 38 = .ok (.iconst 0, 1) := by decide +kernel
theorem dX4_priceOf_39 : decode cX4_priceOf 39 = .ok (.ireturn, 1) := by decide +kernel
theorem dX4_priceOf_40 : decode cX4_priceOf 40 = .ok (.iconst 0, 1) := by decide +kernel
theorem dX4_priceOf_41 : decode cX4_priceOf 41 = .ok (.aload_n 0, 1) := by decide +kernel
theorem dX4_priceOf_42 : decode cX4_priceOf 42 = .ok (.getfield 11, 3) := by decide +kernel
theorem dX4_priceOf_45 : decode cX4_priceOf 45 = .ok (.aload_n 0, 1) := by decide +kernel
theorem dX4_priceOf_46 : decode cX4_priceOf 46 = .ok (.getfield 20, 3) := by decide +kernel
theorem dX4_priceOf_49 : decode cX4_priceOf 49 = .ok (.aaload, 1) := by decide +kernel
theorem dX4_priceOf_50 : decode cX4_priceOf 50 = .ok (.iload_n 1, 1) := by decide +kernel
theorem dX4_priceOf_51 : decode cX4_priceOf 51 = .ok (.aload_n 0, 1) := by decide +kernel
theorem dX4_priceOf_52 : decode cX4_priceOf 52 = .ok (.getfield 16, 3) := by decide +kernel
theorem dX4_priceOf_55 : decode cX4_priceOf 55 = .ok (.aload_n 0, 1) := by decide +kernel
theorem dX4_priceOf_56 : decode cX4_priceOf 56 = .ok (.getfield 20, 3) := by decide +kernel
theorem dX4_priceOf_59 : decode cX4_priceOf 59 = .ok (.iaload, 1) := by decide +kernel
theorem dX4_priceOf_60 : decode cX4_priceOf 60 = .ok (.iconst 1, 1) := by decide +kernel
theorem dX4_priceOf_61 : decode cX4_priceOf 61 = .ok (.isub, 1) := by decide +kernel
theorem dX4_priceOf_62 : decode cX4_priceOf 62 = .ok (.invokestatic 37, 3) := by decide +kernel
theorem dX4_priceOf_65 : decode cX4_priceOf 65 = .ok (.baload, 1) := by decide +kernel
theorem dX4_priceOf_66 : decode cX4_priceOf 66 = .ok (.invokestatic 43, 3) := by decide +kernel
theorem dX4_priceOf_69 : decode cX4_priceOf 69 = .ok (.ireturn, 1) := by decide +kernel
theorem dX5_init_0 : decode cX5_init 0 = .ok (.aload_n 0, 1) := by decide +kernel
theorem dX5_init_1 : decode cX5_init 1 = .ok (.invokespecial 3, 3) := by decide +kernel
theorem dX5_init_4 : decode cX5_init 4 = .ok (.aload_n 0, 1) := by decide +kernel
theorem dX5_init_5 : decode cX5_init 5 = .ok (.bipush 16, 2) := by decide +kernel
theorem dX5_init_7 : decode cX5_init 7 = .ok (.newarray .int, 2) := by decide +kernel
theorem dX5_init_9 : decode cX5_init 9 = .ok (.putfield 9, 3) := by decide +kernel
theorem dX5_init_12 : decode cX5_init 12 = .ok (.aload_n 0, 1) := by decide +kernel
theorem dX5_init_13 : decode cX5_init 13 = .ok (.bipush (-9), 2) := by decide +kernel
theorem dX5_init_15 : decode cX5_init 15 = .ok (.putfield 15, 3) := by decide +kernel
theorem dX5_init_18 : decode cX5_init 18 = .ok (.return_, 1) := by decide +kernel
theorem dX5_clear_0 : decode cX5_clear 0 = .ok (.aload_n 0, 1) := by decide +kernel
theorem dX5_clear_1 : decode cX5_clear 1 = .ok (.iconst 0, 1) := by decide +kernel
theorem dX5_clear_2 : decode cX5_clear 2 = .ok (.putfield 19, 3) := by decide +kernel
theorem dX5_clear_5 : decode cX5_clear 5 = .ok (.aload_n 0, 1) := by decide +kernel
theorem dX5_clear_6 : decode cX5_clear 6 = .ok (.iconst 0, 1) := by decide +kernel
theorem dX5_clear_7 : decode cX5_clear 7 = .ok (.putfield 22, 3) := by decide +kernel
theorem dX5_clear_10 : decode cX5_clear 10 = .ok (.return_, 1) := by decide +kernel
theorem dX5_goesOn_0 : decode cX5_goesOn 0 = .ok (.aload_n 0, 1) := by decide +kernel
theorem dX5_goesOn_1 : decode cX5_goesOn 1 = .ok (.getfield 19, 3) := by decide +kernel
theorem dX5_goesOn_4 : decode cX5_goesOn 4 = .ok (.iconst 1, 1) := by decide +kernel
theorem dX5_goesOn_5 : decode cX5_goesOn 5 = .ok (.if_icmp .le 7, 3) := by decide +kernel
theorem dX5_goesOn_8 : decode cX5_goesOn 8 = .ok (.iconst 1, 1) := by decide +kernel
theorem dX5_goesOn_9 : decode cX5_goesOn 9 = .ok (.goto 4, 3) := by decide +kernel
theorem dX5_goesOn_12 : decode cX5_goesOn 12 = .ok (.iconst 0, 1) := by decide +kernel
theorem dX5_goesOn_13 : decode cX5_goesOn 13 = .ok (.ireturn, 1) := by decide +kernel
theorem dX5_append_0 : decode cX5_append 0 = .ok (.aload_n 0, 1) := by decide +kernel
theorem dX5_append_1 : decode cX5_append 1 = .ok (.getfield 9, 3) := by decide +kernel
theorem dX5_append_4 : decode cX5_append 4 = .ok (.aload_n 0, 1) := by decide +kernel
theorem dX5_append_5 : decode cX5_append 5 = .ok (.getfield 19, 3) := by decide +kernel
theorem dX5_append_8 : decode cX5_append 8 = .ok (.iload_n 1, 1) := by decide +kernel
theorem dX5_append_9 : decode cX5_append 9 = .ok (.iastore, 1) := by decide +kernel
theorem dX5_append_10 : decode cX5_append 10 = .ok (.aload_n 0, 1) := by decide +kernel
theorem dX5_append_11 : decode cX5_append 11 = .ok (.dup, 1) := by decide +kernel
theorem dX5_append_12 : decode cX5_append 12 = .ok (.getfield 19, 3) := by decide +kernel
theorem dX5_append_15 : decode cX5_append 15 = .ok (.iconst 1, 1) := by decide +kernel
theorem dX5_append_16 : decode cX5_append 16 = .ok (.iadd, 1) := by decide +kernel
theorem dX5_append_17 : decode cX5_append 17 = .ok (.putfield 19, 3) := by decide +kernel
theorem dX5_append_20 : decode cX5_append 20 = .ok (.return_, 1) := by decide +kernel
theorem dX5_settle_0 : decode cX5_settle 0 = .ok (.iload_n 1, 1) := by decide +kernel
theorem dX5_settle_1 : decode cX5_settle 1 = .ok (.ifCond .eq 12, 3) := by decide +kernel
theorem dX5_settle_4 : decode cX5_settle 4 = .ok (.aload_n 0, 1) := by decide +kernel
theorem dX5_settle_5 : decode cX5_settle 5 = .ok (.getfield 9, 3) := by decide +kernel
theorem dX5_settle_8 : decode cX5_settle 8 = .ok (.iconst 0, 1) := by decide +kernel
theorem dX5_settle_9 : decode cX5_settle 9 = .ok (.iaload, 1) := by decide +kernel
theorem dX5_settle_10 : decode cX5_settle 10 = .ok (.goto 9, 3) := by decide +kernel
theorem dX5_settle_13 : decode cX5_settle 13 = .ok (.aload_n 0, 1) := by decide +kernel
theorem dX5_settle_14 : decode cX5_settle 14 = .ok (.getfield 9, 3) := by decide +kernel
theorem dX5_settle_17 : decode cX5_settle 17 = .ok (.iconst 1, 1) := by decide +kernel
theorem dX5_settle_18 : decode cX5_settle 18 = .ok (.iaload, 1) := by decide +kernel
theorem dX5_settle_19 : decode cX5_settle 19 = .ok (.istore_n 2, 1) := by decide +kernel
theorem dX5_settle_20 : decode cX5_settle 20 = .ok (.iconst 2, 1) := by decide +kernel
theorem dX5_settle_21 : decode cX5_settle 21 = .ok (.istore_n 3, 1) := by decide +kernel
theorem dX5_settle_22 : decode cX5_settle 22 = .ok (.iload_n 3, 1) := by decide +kernel
theorem dX5_settle_23 : decode cX5_settle 23 = .ok (.aload_n 0, 1) := by decide +kernel
theorem dX5_settle_24 : decode cX5_settle 24 = .ok (.getfield 19, 3) := by decide +kernel
theorem dX5_settle_27 : decode cX5_settle 27 = .ok (.if_icmp .ge 23, 3) := by decide +kernel
theorem dX5_settle_30 : decode cX5_settle 30 = .ok (.aload_n 0, 1) := by decide +kernel
theorem dX5_settle_31 : decode cX5_settle 31 = .ok (.getfield 9, 3) := by decide +kernel
theorem dX5_settle_34 : decode cX5_settle 34 = .ok (.iload_n 3, 1) := by decide +kernel
theorem dX5_settle_35 : decode cX5_settle 35 = .ok (.iconst 2, 1) := by decide +kernel
theorem dX5_settle_36 : decode cX5_settle 36 = .ok (.isub, 1) := by decide +kernel
theorem dX5_settle_37 : decode cX5_settle 37 = .ok (.aload_n 0, 1) := by decide +kernel
theorem dX5_settle_38 : decode cX5_settle 38 = .ok (.getfield 9, 3) := by decide +kernel
theorem dX5_settle_41 : decode cX5_settle 41 = .ok (.iload_n 3, 1) := by decide +kernel
theorem dX5_settle_42 : decode cX5_settle 42 = .ok (.iaload, 1) := by decide +kernel
theorem dX5_settle_43 : decode cX5_settle 43 = .ok (.iastore, 1) := by decide +kernel
theorem dX5_settle_44 : decode cX5_settle 44 = .ok (.iinc 3 1, 3) := by decide +kernel
theorem dX5_settle_47 : decode cX5_settle 47 = .ok (.goto (-25), 3) := by decide +kernel
theorem dX5_settle_50 : decode cX5_settle 50 = .ok (.aload_n 0, 1) := by decide +kernel
theorem dX5_settle_51 : decode cX5_settle 51 = .ok (.getfield 9, 3) := by decide +kernel
theorem dX5_settle_54 : decode cX5_settle 54 = .ok (.aload_n 0, 1) := by decide +kernel
theorem dX5_settle_55 : decode cX5_settle 55 = .ok (.getfield 19, 3) := by decide +kernel
theorem dX5_settle_58 : decode cX5_settle 58 = .ok (.iconst 2, 1) := by decide +kernel
theorem dX5_settle_59 : decode cX5_settle 59 = .ok (.isub, 1) := by decide +kernel
theorem dX5_settle_60 : decode cX5_settle 60 = .ok (.iload_n 2, 1) := by decide +kernel
theorem dX5_settle_61 : decode cX5_settle 61 = .ok (.iastore, 1) := by decide +kernel
theorem dX5_settle_62 : decode cX5_settle 62 = .ok (.aload_n 0, 1) := by decide +kernel
theorem dX5_settle_63 : decode cX5_settle 63 = .ok (.dup, 1) := by decide +kernel
theorem dX5_settle_64 : decode cX5_settle 64 = .ok (.getfield 19, 3) := by decide +kernel
theorem dX5_settle_67 : decode cX5_settle 67 = .ok (.iconst 1, 1) := by decide +kernel
theorem dX5_settle_68 : decode cX5_settle 68 = .ok (.isub, 1) := by decide +kernel
theorem dX5_settle_69 : decode cX5_settle 69 = .ok (.putfield 19, 3) := by decide +kernel
theorem dX5_settle_72 : decode cX5_settle 72 = .ok (.return_, 1) := by decide +kernel
theorem dX6_init_0 : decode cX6_init 0 = .ok (.aload_n 0, 1) := by decide +kernel
theorem dX6_init_1 : decode cX6_init 1 = .ok (.invokespecial 3, 3) := by decide +kernel
theorem dX6_init_4 : decode cX6_init 4 = .ok (.aload_n 0, 1) := by decide +kernel
theorem dX6_init_5 : decode cX6_init 5 = .ok (.bipush 120, 2) := by decide +kernel
theorem dX6_init_7 : decode cX6_init 7 = .ok (.newarray .int, 2) := by decide +kernel
theorem dX6_init_9 : decode cX6_init 9 = .ok (.putfield 9, 3) := by decide +kernel
theorem dX6_init_12 : decode cX6_init 12 = .ok (.aload_n 0, 1) := by decide +kernel
theorem dX6_init_13 : decode cX6_init 13 = .ok (.bipush 120, 2) := by decide +kernel
theorem dX6_init_15 : decode cX6_init 15 = .ok (.newarray .int, 2) := by decide +kernel
theorem dX6_init_17 : decode cX6_init 17 = .ok (.putfield 15, 3) := by decide +kernel
theorem dX6_init_20 : decode cX6_init 20 = .ok (.aload_n 0, 1) := by decide +kernel
theorem dX6_init_21 : decode cX6_init 21 = .ok (.bipush 120, 2) := by decide +kernel
theorem dX6_init_23 : decode cX6_init 23 = .ok (.newarray .int, 2) := by decide +kernel
theorem dX6_init_25 : decode cX6_init 25 = .ok (.putfield 18, 3) := by decide +kernel
theorem dX6_init_28 : decode cX6_init 28 = .ok (.aload_n 0, 1) := by decide +kernel
theorem dX6_init_29 : decode cX6_init 29 = .ok (.bipush 120, 2) := by decide +kernel
theorem dX6_init_31 : decode cX6_init 31 = .ok (.newarray .int, 2) := by decide +kernel
theorem dX6_init_33 : decode cX6_init 33 = .ok (.putfield 21, 3) := by decide +kernel
theorem dX6_init_36 : decode cX6_init 36 = .ok (.aload_n 0, 1) := by decide +kernel
theorem dX6_init_37 : decode cX6_init 37 = .ok (.bipush 16, 2) := by decide +kernel
theorem dX6_init_39 : decode cX6_init 39 = .ok (.newarray .int, 2) := by decide +kernel
theorem dX6_init_41 : decode cX6_init 41 = .ok (.putfield 24, 3) := by decide +kernel
theorem dX6_init_44 : decode cX6_init 44 = .ok (.return_, 1) := by decide +kernel
theorem dX6_begin_0 : decode cX6_begin 0 = .ok (.aload_n 0, 1) := by decide +kernel
theorem dX6_begin_1 : decode cX6_begin 1 = .ok (.iconst 1, 1) := by decide +kernel
theorem dX6_begin_2 : decode cX6_begin 2 = .ok (.putfield 27, 3) := by decide +kernel
theorem dX6_begin_5 : decode cX6_begin 5 = .ok (.aload_n 0, 1) := by decide +kernel
theorem dX6_begin_6 : decode cX6_begin 6 = .ok (.iload_n 1, 1) := by decide +kernel
theorem dX6_begin_7 : decode cX6_begin 7 = .ok (.putfield 31, 3) := by decide +kernel
theorem dX6_begin_10 : decode cX6_begin 10 = .ok (.aload_n 0, 1) := by decide +kernel
theorem dX6_begin_11 : decode cX6_begin 11 = .ok (.iconst 0, 1) := by decide +kernel
theorem dX6_begin_12 : decode cX6_begin 12 = .ok (.putfield 35, 3) := by decide +kernel
theorem dX6_begin_15 : decode cX6_begin 15 = .ok (.aload_n 0, 1) := by decide +kernel
theorem dX6_begin_16 : decode cX6_begin 16 = .ok (.iconst 0, 1) := by decide +kernel
theorem dX6_begin_17 : decode cX6_begin 17 = .ok (.putfield 38, 3) := by decide +kernel
theorem dX6_begin_20 : decode cX6_begin 20 = .ok (.aload_n 0, 1) := by decide +kernel
theorem dX6_begin_21 : decode cX6_begin 21 = .ok (.iconst 0, 1) := by decide +kernel
theorem dX6_begin_22 : decode cX6_begin 22 = .ok (.putfield 41, 3) := by decide +kernel
theorem dX6_begin_25 : decode cX6_begin 25 = .ok (.aload_n 0, 1) := by decide +kernel
theorem dX6_begin_26 : decode cX6_begin 26 = .ok (.getfield 24, 3) := by decide +kernel
theorem dX6_begin_29 : decode cX6_begin 29 = .ok (.iconst 0, 1) := by decide +kernel
theorem dX6_begin_30 : decode cX6_begin 30 = .ok (.invokestatic 44, 3) := by decide +kernel
theorem dX6_begin_33 : decode cX6_begin 33 = .ok (.return_, 1) := by decide +kernel
theorem dX6_isComplete_0 : decode cX6_isComplete 0 = .ok (.aload_n 0, 1) := by decide +kernel
theorem dX6_isComplete_1 : decode cX6_isComplete 1 = .ok (.getfield 27, 3) := by decide +kernel
theorem dX6_isComplete_4 : decode cX6_isComplete 4 = .ok (.ifCond .eq 25, 3) := by decide +kernel
theorem dX6_isComplete_7 : decode cX6_isComplete 7 = .ok (.aload_n 0, 1) := by decide +kernel
theorem dX6_isComplete_8 : decode cX6_isComplete 8 = .ok (.getfield 35, 3) := by decide +kernel
theorem dX6_isComplete_11 : decode cX6_isComplete 11 = .ok (.aload_n 0, 1) := by decide +kernel
theorem dX6_isComplete_12 : decode cX6_isComplete 12 = .ok (.getfield 31, 3) := by decide +kernel
theorem dX6_isComplete_15 : decode cX6_isComplete 15 = .ok (.if_icmp .ne 14, 3) := by decide +kernel
theorem dX6_isComplete_18 : decode cX6_isComplete 18 = .ok (.aload_n 0, 1) := by decide +kernel
theorem dX6_isComplete_19 : decode cX6_isComplete 19 = .ok (.getfield 41, 3) := by decide +kernel
theorem dX6_isComplete_22 : decode cX6_isComplete 22 = .ok (.ifCond .ne 7, 3) := by decide +kernel
theorem dX6_isComplete_25 : decode cX6_isComplete 25 = .ok (.iconst 1, 1) := by decide +kernel
theorem dX6_isComplete_26 : decode cX6_isComplete 26 = .ok (.goto 4, 3) := by decide +kernel
theorem dX6_isComplete_29 : decode cX6_isComplete 29 = .ok (.iconst 0, 1) := by decide +kernel
theorem dX6_isComplete_30 : decode cX6_isComplete 30 = .ok (.ireturn, 1) := by decide +kernel
theorem dX6_knows_0 : decode cX6_knows 0 = .ok (.iload_n 1, 1) := by decide +kernel
theorem dX6_knows_1 : decode cX6_knows 1 = .ok (.ifCond .lt 15, 3) := by decide +kernel
theorem dX6_knows_4 : decode cX6_knows 4 = .ok (.iload_n 1, 1) := by decide +kernel
theorem dX6_knows_5 : decode cX6_knows 5 = .ok (.aload_n 0, 1) := by decide +kernel
theorem dX6_knows_6 : decode cX6_knows 6 = .ok (.getfield 38, 3) := by decide +kernel
theorem dX6_knows_9 : decode cX6_knows 9 = .ok (.if_icmp .ge 7, 3) := by decide +kernel
theorem dX6_knows_12 : decode cX6_knows 12 = .ok (.iconst 1, 1) := by decide +kernel
theorem dX6_knows_13 : decode cX6_knows 13 = .ok (.goto 4, 3) := by decide +kernel
theorem dX6_knows_16 : decode cX6_knows 16 = .ok (.iconst 0, 1) := by decide +kernel
theorem dX6_knows_17 : decode cX6_knows 17 = .ok (.ireturn, 1) := by decide +kernel
theorem dX6_haveMet_0 : decode cX6_haveMet 0 = .ok (.aload_n 0, 1) := by decide +kernel
theorem dX6_haveMet_1 : decode cX6_haveMet 1 = .ok (.getfield 24, 3) := by decide +kernel
theorem dX6_haveMet_4 : decode cX6_haveMet 4 = .ok (.iload_n 1, 1) := by decide +kernel
theorem dX6_haveMet_5 : decode cX6_haveMet 5 = .ok (.iaload, 1) := by decide +kernel
theorem dX6_haveMet_6 : decode cX6_haveMet 6 = .ok (.iconst 1, 1) := by decide +kernel
theorem dX6_haveMet_7 : decode cX6_haveMet 7 = .ok (.iload_n 2, 1) := by decide +kernel
theorem dX6_haveMet_8 : decode cX6_haveMet 8 = .ok (.ishl, 1) := by decide +kernel
theorem dX6_haveMet_9 : decode cX6_haveMet 9 = .ok (.iand, 1) := by decide +kernel
theorem dX6_haveMet_10 : decode cX6_haveMet 10 = .ok (.ifCond .eq 7, 3) := by decide +kernel
theorem dX6_haveMet_13 : decode cX6_haveMet 13 = .ok (.iconst 1, 1) := by decide +kernel
theorem dX6_haveMet_14 : decode cX6_haveMet 14 = .ok (.goto 4, 3) := by decide +kernel
theorem dX6_haveMet_17 : decode cX6_haveMet 17 = .ok (.iconst 0, 1) := by decide +kernel
theorem dX6_haveMet_18 : decode cX6_haveMet 18 = .ok (.ireturn, 1) := by decide +kernel
theorem dX6_addBout_0 : decode cX6_addBout 0 = .ok (.aload_n 0, 1) := by decide +kernel
theorem dX6_addBout_1 : decode cX6_addBout 1 = .ok (.getfield 9, 3) := by decide +kernel
theorem dX6_addBout_4 : decode cX6_addBout 4 = .ok (.aload_n 0, 1) := by decide +kernel
theorem dX6_addBout_5 : decode cX6_addBout 5 = .ok (.getfield 38, 3) := by decide +kernel
theorem dX6_addBout_8 : decode cX6_addBout 8 = .ok (.aload_n 0, 1) := by decide +kernel
theorem dX6_addBout_9 : decode cX6_addBout 9 = .ok (.getfield 35, 3) := by decide +kernel
theorem dX6_addBout_12 : decode cX6_addBout 12 = .ok (.iastore, 1) := by decide +kernel
theorem dX6_addBout_13 : decode cX6_addBout 13 = .ok (.aload_n 0, 1) := by decide +kernel
theorem dX6_addBout_14 : decode cX6_addBout 14 = .ok (.getfield 15, 3) := by decide +kernel
theorem dX6_addBout_17 : decode cX6_addBout 17 = .ok (.aload_n 0, 1) := by decide +kernel
theorem dX6_addBout_18 : decode cX6_addBout 18 = .ok (.getfield 38, 3) := by decide +kernel
theorem dX6_addBout_21 : decode cX6_addBout 21 = .ok (.iload_n 1, 1) := by decide +kernel
theorem dX6_addBout_22 : decode cX6_addBout 22 = .ok (.iastore, 1) := by decide +kernel
theorem dX6_addBout_23 : decode cX6_addBout 23 = .ok (.aload_n 0, 1) := by decide +kernel
theorem dX6_addBout_24 : decode cX6_addBout 24 = .ok (.getfield 18, 3) := by decide +kernel
theorem dX6_addBout_27 : decode cX6_addBout 27 = .ok (.aload_n 0, 1) := by decide +kernel
theorem dX6_addBout_28 : decode cX6_addBout 28 = .ok (.getfield 38, 3) := by decide +kernel
theorem dX6_addBout_31 : decode cX6_addBout 31 = .ok (.iload_n 2, 1) := by decide +kernel
theorem dX6_addBout_32 : decode cX6_addBout 32 = .ok (.iastore, 1) := by decide +kernel
theorem dX6_addBout_33 : decode cX6_addBout 33 = .ok (.aload_n 0, 1) := by decide +kernel
theorem dX6_addBout_34 : decode cX6_addBout 34 = .ok (.getfield 21, 3) := by decide +kernel
theorem dX6_addBout_37 : decode cX6_addBout 37 = .ok (.aload_n 0, 1) := by decide +kernel
theorem dX6_addBout_38 : decode cX6_addBout 38 = .ok (.getfield 38, 3) := by decide +kernel
theorem dX6_addBout_41 : decode cX6_addBout 41 = .ok (.bipush (-9), 2) := by decide +kernel
theorem dX6_addBout_43 : decode cX6_addBout 43 = .ok (.iastore, 1) := by decide +kernel
theorem dX6_addBout_44 : decode cX6_addBout 44 = .ok (.aload_n 0, 1) := by decide +kernel
theorem dX6_addBout_45 : decode cX6_addBout 45 = .ok (.dup, 1) := by decide +kernel
theorem dX6_addBout_46 : decode cX6_addBout 46 = .ok (.getfield 38, 3) := by decide +kernel
theorem dX6_addBout_49 : decode cX6_addBout 49 = .ok (.iconst 1, 1) := by decide +kernel
theorem dX6_addBout_50 : decode cX6_addBout 50 = .ok (.iadd, 1) := by decide +kernel
theorem dX6_addBout_51 : decode cX6_addBout 51 = .ok (.putfield 38, 3) := by decide +kernel
theorem dX6_addBout_54 : decode cX6_addBout 54 = .ok (.aload_n 0, 1) := by decide +kernel
theorem dX6_addBout_55 : decode cX6_addBout 55 = .ok (.dup, 1) := by decide +kernel
theorem dX6_addBout_56 : decode cX6_addBout 56 = .ok (.getfield 41, 3) := by decide +kernel
theorem dX6_addBout_59 : decode cX6_addBout 59 = .ok (.iconst 1, 1) := by decide +kernel
theorem dX6_addBout_60 : decode cX6_addBout 60 = .ok (.iadd, 1) := by decide +kernel
theorem dX6_addBout_61 : decode cX6_addBout 61 = .ok (.putfield 41, 3) := by decide +kernel
theorem dX6_addBout_64 : decode cX6_addBout 64 = .ok (.aload_n 0, 1) := by decide +kernel
theorem dX6_addBout_65 : decode cX6_addBout 65 = .ok (.getfield 24, 3) := by decide +kernel
theorem dX6_addBout_68 : decode cX6_addBout 68 = .ok (.iload_n 1, 1) := by decide +kernel
theorem dX6_addBout_69 : decode cX6_addBout 69 = .ok (.dup2, 1) := by decide +kernel
theorem dX6_addBout_70 : decode cX6_addBout 70 = .ok (.iaload, 1) := by decide +kernel
theorem dX6_addBout_71 : decode cX6_addBout 71 = .ok (.iconst 1, 1) := by decide +kernel
theorem dX6_addBout_72 : decode cX6_addBout 72 = .ok (.iload_n 2, 1) := by decide +kernel
theorem dX6_addBout_73 : decode cX6_addBout 73 = .ok (.ishl, 1) := by decide +kernel
theorem dX6_addBout_74 : decode cX6_addBout 74 = .ok (.ior, 1) := by decide +kernel
theorem dX6_addBout_75 : decode cX6_addBout 75 = .ok (.iastore, 1) := by decide +kernel
theorem dX6_addBout_76 : decode cX6_addBout 76 = .ok (.aload_n 0, 1) := by decide +kernel
theorem dX6_addBout_77 : decode cX6_addBout 77 = .ok (.getfield 24, 3) := by decide +kernel
theorem dX6_addBout_80 : decode cX6_addBout 80 = .ok (.iload_n 2, 1) := by decide +kernel
theorem dX6_addBout_81 : decode cX6_addBout 81 = .ok (.dup2, 1) := by decide +kernel
theorem dX6_addBout_82 : decode cX6_addBout 82 = .ok (.iaload, 1) := by decide +kernel
theorem dX6_addBout_83 : decode cX6_addBout 83 = .ok (.iconst 1, 1) := by decide +kernel
theorem dX6_addBout_84 : decode cX6_addBout 84 = .ok (.iload_n 1, 1) := by decide +kernel
theorem dX6_addBout_85 : decode cX6_addBout 85 = .ok (.ishl, 1) := by decide +kernel
theorem dX6_addBout_86 : decode cX6_addBout 86 = .ok (.ior, 1) := by decide +kernel
theorem dX6_addBout_87 : decode cX6_addBout 87 = .ok (.iastore, 1) := by decide +kernel
theorem dX6_addBout_88 : decode cX6_addBout 88 = .ok (.return_, 1) := by decide +kernel
theorem dX6_loserOf_0 : decode cX6_loserOf 0 = .ok (.aload_n 0, 1) := by decide +kernel
theorem dX6_loserOf_1 : decode cX6_loserOf 1 = .ok (.getfield 21, 3) := by decide +kernel
theorem dX6_loserOf_4 : decode cX6_loserOf 4 = .ok (.iload_n 1, 1) := by decide +kernel
theorem dX6_loserOf_5 : decode cX6_loserOf 5 = .ok (.iaload, 1) := by decide +kernel
theorem dX6_loserOf_6 : decode cX6_loserOf 6 = .ok (.aload_n 0, 1) := by decide +kernel
theorem dX6_loserOf_7 : decode cX6_loserOf 7 = .ok (.getfield 15, 3) := by decide +kernel
theorem dX6_loserOf_10 : decode cX6_loserOf 10 = .ok (.iload_n 1, 1) := by decide +kernel
theorem dX6_loserOf_11 : decode cX6_loserOf 11 = .ok (.iaload, 1) := by decide +kernel
theorem dX6_loserOf_12 : decode cX6_loserOf 12 = .ok (.if_icmp .ne 12, 3) := by decide +kernel
theorem dX6_loserOf_15 : decode cX6_loserOf 15 = .ok (.aload_n 0, 1) := by decide +kernel
theorem dX6_loserOf_16 : decode cX6_loserOf 16 = .ok (.getfield 18, 3) := by decide +kernel
theorem dX6_loserOf_19 : decode cX6_loserOf 19 = .ok (.iload_n 1, 1) := by decide +kernel
theorem dX6_loserOf_20 : decode cX6_loserOf 20 = .ok (.iaload, 1) := by decide +kernel
theorem dX6_loserOf_21 : decode cX6_loserOf 21 = .ok (.goto 9, 3) := by decide +kernel
theorem dX6_loserOf_24 : decode cX6_loserOf 24 = .ok (.aload_n 0, 1) := by decide +kernel
theorem dX6_loserOf_25 : decode cX6_loserOf 25 = .ok (.getfield 15, 3) := by decide +kernel
theorem dX6_loserOf_28 : decode cX6_loserOf 28 = .ok (.iload_n 1, 1) := by decide +kernel
theorem dX6_loserOf_29 : decode cX6_loserOf 29 = .ok (.iaload, 1) := by decide +kernel
theorem dX6_loserOf_30 : decode cX6_loserOf 30 = .ok (.ireturn, 1) := by decide +kernel
theorem dX6_fact_0 : decode cX6_fact 0 = .ok (.iload_n 2, 1) := by decide +kernel
theorem dX6_fact_1 : decode cX6_fact 1 = .ok (.tableswitch 48 0 2 #[27, 34, 41], 27) := by decide +kernel
theorem dX6_fact_28 : decode cX6_fact 28 = .ok (.aload_n 0, 1) := by decide +kernel
theorem dX6_fact_29 : decode cX6_fact 29 = .ok (.getfield 9, 3) := by decide +kernel
theorem dX6_fact_32 : decode cX6_fact 32 = .ok (.iload_n 1, 1) := by decide +kernel
theorem dX6_fact_33 : decode cX6_fact 33 = .ok (.iaload, 1) := by decide +kernel
theorem dX6_fact_34 : decode cX6_fact 34 = .ok (.ireturn, 1) := by decide +kernel
theorem dX6_fact_35 : decode cX6_fact 35 = .ok (.aload_n 0, 1) := by decide +kernel
theorem dX6_fact_36 : decode cX6_fact 36 = .ok (.getfield 15, 3) := by decide +kernel
theorem dX6_fact_39 : decode cX6_fact 39 = .ok (.iload_n 1, 1) := by decide +kernel
theorem dX6_fact_40 : decode cX6_fact 40 = .ok (.iaload, 1) := by decide +kernel
theorem dX6_fact_41 : decode cX6_fact 41 = .ok (.ireturn, 1) := by decide +kernel
theorem dX6_fact_42 : decode cX6_fact 42 = .ok (.aload_n 0, 1) := by decide +kernel
theorem dX6_fact_43 : decode cX6_fact 43 = .ok (.getfield 18, 3) := by decide +kernel
theorem dX6_fact_46 : decode cX6_fact 46 = .ok (.iload_n 1, 1) := by decide +kernel
theorem dX6_fact_47 : decode cX6_fact 47 = .ok (.iaload, 1) := by decide +kernel
theorem dX6_fact_48 : decode cX6_fact 48 = .ok (.ireturn, 1) := by decide +kernel
theorem dX6_fact_49 : decode cX6_fact 49 = .ok (.aload_n 0, 1) := by decide +kernel
theorem dX6_fact_50 : decode cX6_fact 50 = .ok (.getfield 21, 3) := by decide +kernel
theorem dX6_fact_53 : decode cX6_fact 53 = .ok (.iload_n 1, 1) := by decide +kernel
theorem dX6_fact_54 : decode cX6_fact 54 = .ok (.iaload, 1) := by decide +kernel
theorem dX6_fact_55 : decode cX6_fact 55 = .ok (.ireturn, 1) := by decide +kernel
theorem dX7_init_0 : decode cX7_init 0 = .ok (.aload_n 0, 1) := by decide +kernel
theorem dX7_init_1 : decode cX7_init 1 = .ok (.invokespecial 3, 3) := by decide +kernel
theorem dX7_init_4 : decode cX7_init 4 = .ok (.aload_n 0, 1) := by decide +kernel
theorem dX7_init_5 : decode cX7_init 5 = .ok (.bipush 16, 2) := by decide +kernel
theorem dX7_init_7 : decode cX7_init 7 = .ok (.newarray .int, 2) := by decide +kernel
theorem dX7_init_9 : decode cX7_init 9 = .ok (.putfield 9, 3) := by decide +kernel
theorem dX7_init_12 : decode cX7_init 12 = .ok (.aload_n 0, 1) := by decide +kernel
theorem dX7_init_13 : decode cX7_init 13 = .ok (.bipush 16, 2) := by decide +kernel
theorem dX7_init_15 : decode cX7_init 15 = .ok (.newarray .int, 2) := by decide +kernel
theorem dX7_init_17 : decode cX7_init 17 = .ok (.putfield 15, 3) := by decide +kernel
theorem dX7_init_20 : decode cX7_init 20 = .ok (.aload_n 0, 1) := by decide +kernel
theorem dX7_init_21 : decode cX7_init 21 = .ok (.bipush 16, 2) := by decide +kernel
theorem dX7_init_23 : decode cX7_init 23 = .ok (.newarray .int, 2) := by decide +kernel
theorem dX7_init_25 : decode cX7_init 25 = .ok (.putfield 18, 3) := by decide +kernel
theorem dX7_init_28 : decode cX7_init 28 = .ok (.aload_n 0, 1) := by decide +kernel
theorem dX7_init_29 : decode cX7_init 29 = .ok (.bipush 16, 2) := by decide +kernel
theorem dX7_init_31 : decode cX7_init 31 = .ok (.newarray .int, 2) := by decide +kernel
theorem dX7_init_33 : decode cX7_init 33 = .ok (.putfield 21, 3) := by decide +kernel
theorem dX7_init_36 : decode cX7_init 36 = .ok (.aload_n 0, 1) := by decide +kernel
theorem dX7_init_37 : decode cX7_init 37 = .ok (.bipush 16, 2) := by decide +kernel
theorem dX7_init_39 : decode cX7_init 39 = .ok (.newarray .int, 2) := by decide +kernel
theorem dX7_init_41 : decode cX7_init 41 = .ok (.putfield 24, 3) := by decide +kernel
theorem dX7_init_44 : decode cX7_init 44 = .ok (.aload_n 0, 1) := by decide +kernel
theorem dX7_init_45 : decode cX7_init 45 = .ok (.bipush 16, 2) := by decide +kernel
theorem dX7_init_47 : decode cX7_init 47 = .ok (.newarray .int, 2) := by decide +kernel
theorem dX7_init_49 : decode cX7_init 49 = .ok (.putfield 27, 3) := by decide +kernel
theorem dX7_init_52 : decode cX7_init 52 = .ok (.aload_n 0, 1) := by decide +kernel
theorem dX7_init_53 : decode cX7_init 53 = .ok (.bipush 16, 2) := by decide +kernel
theorem dX7_init_55 : decode cX7_init 55 = .ok (.newarray .int, 2) := by decide +kernel
theorem dX7_init_57 : decode cX7_init 57 = .ok (.putfield 30, 3) := by decide +kernel
theorem dX7_init_60 : decode cX7_init 60 = .ok (.aload_n 0, 1) := by decide +kernel
theorem dX7_init_61 : decode cX7_init 61 = .ok (.getfield 15, 3) := by decide +kernel
theorem dX7_init_64 : decode cX7_init 64 = .ok (.bipush (-9), 2) := by decide +kernel
theorem dX7_init_66 : decode cX7_init 66 = .ok (.invokestatic 33, 3) := by decide +kernel
theorem dX7_init_69 : decode cX7_init 69 = .ok (.aload_n 0, 1) := by decide +kernel
theorem dX7_init_70 : decode cX7_init 70 = .ok (.getfield 18, 3) := by decide +kernel
theorem dX7_init_73 : decode cX7_init 73 = .ok (.bipush (-9), 2) := by decide +kernel
theorem dX7_init_75 : decode cX7_init 75 = .ok (.invokestatic 33, 3) := by decide +kernel
theorem dX7_init_78 : decode cX7_init 78 = .ok (.aload_n 0, 1) := by decide +kernel
theorem dX7_init_79 : decode cX7_init 79 = .ok (.getfield 21, 3) := by decide +kernel
theorem dX7_init_82 : decode cX7_init 82 = .ok (.bipush (-9), 2) := by decide +kernel
theorem dX7_init_84 : decode cX7_init 84 = .ok (.invokestatic 33, 3) := by decide +kernel
theorem dX7_init_87 : decode cX7_init 87 = .ok (.aload_n 0, 1) := by decide +kernel
theorem dX7_init_88 : decode cX7_init 88 = .ok (.getfield 24, 3) := by decide +kernel
theorem dX7_init_91 : decode cX7_init 91 = .ok (.bipush (-9), 2) := by decide +kernel
theorem dX7_init_93 : decode cX7_init 93 = .ok (.invokestatic 33, 3) := by decide +kernel
theorem dX7_init_96 : decode cX7_init 96 = .ok (.return_, 1) := by decide +kernel
theorem dX7_recall_0 : decode cX7_recall 0 = .ok (.aload_n 0, 1) := by decide +kernel
theorem dX7_recall_1 : decode cX7_recall 1 = .ok (.aload_n 1, 1) := by decide +kernel
theorem dX7_recall_2 : decode cX7_recall 2 = .ok (.getfield 39, 3) := by decide +kernel
theorem dX7_recall_5 : decode cX7_recall 5 = .ok (.putfield 45, 3) := by decide +kernel
theorem dX7_recall_8 : decode cX7_recall 8 = .ok (.aload_n 0, 1) := by decide +kernel
theorem dX7_recall_9 : decode cX7_recall 9 = .ok (.iload_n 2, 1) := by decide +kernel
theorem dX7_recall_10 : decode cX7_recall 10 = .ok (.putfield 46, 3) := by decide +kernel
theorem dX7_recall_13 : decode cX7_recall 13 = .ok (.iconst 0, 1) := by decide +kernel
theorem dX7_recall_14 : decode cX7_recall 14 = .ok (.istore_n 3, 1) := by decide +kernel
theorem dX7_recall_15 : decode cX7_recall 15 = .ok (.iload_n 3, 1) := by decide +kernel
theorem dX7_recall_16 : decode cX7_recall 16 = .ok (.aload_n 0, 1) := by decide +kernel
theorem dX7_recall_17 : decode cX7_recall 17 = .ok (.getfield 45, 3) := by decide +kernel
theorem dX7_recall_20 : decode cX7_recall 20 = .ok (.if_icmp .ge 33, 3) := by decide +kernel
theorem dX7_recall_23 : decode cX7_recall 23 = .ok (.aload_n 0, 1) := by decide +kernel
theorem dX7_recall_24 : decode cX7_recall 24 = .ok (.getfield 9, 3) := by decide +kernel
theorem dX7_recall_27 : decode cX7_recall 27 = .ok (.iload_n 3, 1) := by decide +kernel
theorem dX7_recall_28 : decode cX7_recall 28 = .ok (.aload_n 1, 1) := by decide +kernel
theorem dX7_recall_29 : decode cX7_recall 29 = .ok (.getfield 49, 3) := by decide +kernel
theorem dX7_recall_32 : decode cX7_recall 32 = .ok (.iload_n 3, 1) := by decide +kernel
theorem dX7_recall_33 : decode cX7_recall 33 = .ok (.iaload, 1) := by decide +kernel
theorem dX7_recall_34 : decode cX7_recall 34 = .ok (.iastore, 1) := by decide +kernel
theorem dX7_recall_35 : decode cX7_recall 35 = .ok (.aload_n 0, 1) := by decide +kernel
theorem dX7_recall_36 : decode cX7_recall 36 = .ok (.getfield 15, 3) := by decide +kernel
theorem dX7_recall_39 : decode cX7_recall 39 = .ok (.aload_n 1, 1) := by decide +kernel
theorem dX7_recall_40 : decode cX7_recall 40 = .ok (.getfield 49, 3) := by decide +kernel
theorem dX7_recall_43 : decode cX7_recall 43 = .ok (.iload_n 3, 1) := by decide +kernel
theorem dX7_recall_44 : decode cX7_recall 44 = .ok (.iaload, 1) := by decide +kernel
theorem dX7_recall_45 : decode cX7_recall 45 = .ok (.iload_n 3, 1) := by decide +kernel
theorem dX7_recall_46 : decode cX7_recall 46 = .ok (.iastore, 1) := by decide +kernel
theorem dX7_recall_47 : decode cX7_recall 47 = .ok (.iinc 3 1, 3) := by decide +kernel
theorem dX7_recall_50 : decode cX7_recall 50 = .ok (.goto (-35), 3) := by decide +kernel
theorem dX7_recall_53 : decode cX7_recall 53 = .ok (.aload_n 0, 1) := by decide +kernel
theorem dX7_recall_54 : decode cX7_recall 54 = .ok (.dup, 1) := by decide +kernel
theorem dX7_recall_55 : decode cX7_recall 55 = .ok (.getfield 52, 3) := by decide +kernel
theorem dX7_recall_58 : decode cX7_recall 58 = .ok (.iconst 1, 1) := by decide +kernel
theorem dX7_recall_59 : decode cX7_recall 59 = .ok (.iadd, 1) := by decide +kernel
theorem dX7_recall_60 : decode cX7_recall 60 = .ok (.putfield 52, 3) := by decide +kernel
theorem dX7_recall_63 : decode cX7_recall 63 = .ok (.aload_n 0, 1) := by decide +kernel
theorem dX7_recall_64 : decode cX7_recall 64 = .ok (.iconst 1, 1) := by decide +kernel
theorem dX7_recall_65 : decode cX7_recall 65 = .ok (.putfield 55, 3) := by decide +kernel
theorem dX7_recall_68 : decode cX7_recall 68 = .ok (.return_, 1) := by decide +kernel
theorem dX7_aimAt_0 : decode cX7_aimAt 0 = .ok (.iload_n 2, 1) := by decide +kernel
theorem dX7_aimAt_1 : decode cX7_aimAt 1 = .ok (.ifCond .le 7, 3) := by decide +kernel
theorem dX7_aimAt_4 : decode cX7_aimAt 4 = .ok (.iconst 1, 1) := by decide +kernel
theorem dX7_aimAt_5 : decode cX7_aimAt 5 = .ok (.goto 12, 3) := by decide +kernel
theorem dX7_aimAt_8 : decode cX7_aimAt 8 = .ok (.iload_n 2, 1) := by decide +kernel
theorem dX7_aimAt_9 : decode cX7_aimAt 9 = .ok (.ifCond .ge 7, 3) := by decide +kernel
theorem dX7_aimAt_12 : decode cX7_aimAt 12 = .ok (.iconst (-1), 1) := by decide +kernel
theorem dX7_aimAt_13 : decode cX7_aimAt 13 = .ok (.goto 4, 3) := by decide +kernel
theorem dX7_aimAt_16 : decode cX7_aimAt 16 = .ok (.iconst 0, 1) := by decide +kernel
theorem dX7_aimAt_17 : decode cX7_aimAt 17 = .ok (.istore_n 3, 1) := by decide +kernel
theorem dX7_aimAt_18 : decode cX7_aimAt 18 = .ok (.aload_n 0, 1) := by decide +kernel
theorem dX7_aimAt_19 : decode cX7_aimAt 19 = .ok (.getfield 30, 3) := by decide +kernel
theorem dX7_aimAt_22 : decode cX7_aimAt 22 = .ok (.iload_n 1, 1) := by decide +kernel
theorem dX7_aimAt_23 : decode cX7_aimAt 23 = .ok (.iconst 2, 1) := by decide +kernel
theorem dX7_aimAt_24 : decode cX7_aimAt 24 = .ok (.aload_n 0, 1) := by decide +kernel
theorem dX7_aimAt_25 : decode cX7_aimAt 25 = .ok (.getfield 15, 3) := by decide +kernel
theorem dX7_aimAt_28 : decode cX7_aimAt 28 = .ok (.iload_n 1, 1) := by decide +kernel
theorem dX7_aimAt_29 : decode cX7_aimAt 29 = .ok (.iaload, 1) := by decide +kernel
theorem dX7_aimAt_30 : decode cX7_aimAt 30 = .ok (.iload_n 2, 1) := by decide +kernel
theorem dX7_aimAt_31 : decode cX7_aimAt 31 = .ok (.isub, 1) := by decide +kernel
theorem dX7_aimAt_32 : decode cX7_aimAt 32 = .ok (.imul, 1) := by decide +kernel
theorem dX7_aimAt_33 : decode cX7_aimAt 33 = .ok (.iload_n 3, 1) := by decide +kernel
theorem dX7_aimAt_34 : decode cX7_aimAt 34 = .ok (.isub, 1) := by decide +kernel
theorem dX7_aimAt_35 : decode cX7_aimAt 35 = .ok (.iastore, 1) := by decide +kernel
theorem dX7_aimAt_36 : decode cX7_aimAt 36 = .ok (.return_, 1) := by decide +kernel
theorem dX7_arrange_0 : decode cX7_arrange 0 = .ok (.iconst 0, 1) := by decide +kernel
theorem dX7_arrange_1 : decode cX7_arrange 1 = .ok (.istore_n 1, 1) := by decide +kernel
theorem dX7_arrange_2 : decode cX7_arrange 2 = .ok (.iload_n 1, 1) := by decide +kernel
theorem dX7_arrange_3 : decode cX7_arrange 3 = .ok (.aload_n 0, 1) := by decide +kernel
theorem dX7_arrange_4 : decode cX7_arrange 4 = .ok (.getfield 45, 3) := by decide +kernel
theorem dX7_arrange_7 : decode cX7_arrange 7 = .ok (.if_icmp .ge 71, 3) := by decide +kernel
theorem dX7_arrange_10 : decode cX7_arrange 10 = .ok (.aload_n 0, 1) := by decide +kernel
theorem dX7_arrange_11 : decode cX7_arrange 11 = .ok (.getfield 9, 3) := by decide +kernel
theorem dX7_arrange_14 : decode cX7_arrange 14 = .ok (.iload_n 1, 1) := by decide +kernel
theorem dX7_arrange_15 : decode cX7_arrange 15 = .ok (.iaload, 1) := by decide +kernel
theorem dX7_arrange_16 : decode cX7_arrange 16 = .ok (.istore_n 2, 1) := by decide +kernel
theorem dX7_arrange_17 : decode cX7_arrange 17 = .ok (.iload_n 1, 1) := by decide +kernel
theorem dX7_arrange_18 : decode cX7_arrange 18 = .ok (.istore_n 3, 1) := by decide +kernel
theorem dX7_arrange_19 : decode cX7_arrange 19 = .ok (.iload_n 3, 1) := by decide +kernel
theorem dX7_arrange_20 : decode cX7_arrange 20 = .ok (.ifCond .le 45, 3) := by decide +kernel
theorem dX7_arrange_23 : decode cX7_arrange 23 = .ok (.aload_n 0, 1) := by decide +kernel
theorem dX7_arrange_24 : decode cX7_arrange 24 = .ok (.getfield 30, 3) := by decide +kernel
theorem dX7_arrange_27 : decode cX7_arrange 27 = .ok (.aload_n 0, 1) := by decide +kernel
theorem dX7_arrange_28 : decode cX7_arrange 28 = .ok (.getfield 27, 3) := by decide +kernel
theorem dX7_arrange_31 : decode cX7_arrange 31 = .ok (.iload_n 3, 1) := by decide +kernel
theorem dX7_arrange_32 : decode cX7_arrange 32 = .ok (.iconst 1, 1) := by decide +kernel
theorem dX7_arrange_33 : decode cX7_arrange 33 = .ok (.isub, 1) := by decide +kernel
theorem dX7_arrange_34 : decode cX7_arrange 34 = .ok (.iaload, 1) := by decide +kernel
theorem dX7_arrange_35 : decode cX7_arrange 35 = .ok (.iaload, 1) := by decide +kernel
theorem dX7_arrange_36 : decode cX7_arrange 36 = .ok (.aload_n 0, 1) := by decide +kernel
theorem dX7_arrange_37 : decode cX7_arrange 37 = .ok (.getfield 30, 3) := by decide +kernel
theorem dX7_arrange_40 : decode cX7_arrange 40 = .ok (.iload_n 2, 1) := by decide +kernel
theorem dX7_arrange_41 : decode cX7_arrange 41 = .ok (.iaload, 1) := by decide +kernel
theorem dX7_arrange_42 : decode cX7_arrange 42 = .ok (.if_icmp .le 23, 3) := by decide +kernel
theorem dX7_arrange_45 : decode cX7_arrange 45 = .ok (.aload_n 0, 1) := by decide +kernel
theorem dX7_arrange_46 : decode cX7_arrange 46 = .ok (.getfield 27, 3) := by decide +kernel
theorem dX7_arrange_49 : decode cX7_arrange 49 = .ok (.iload_n 3, 1) := by decide +kernel
theorem dX7_arrange_50 : decode cX7_arrange 50 = .ok (.aload_n 0, 1) := by decide +kernel
theorem dX7_arrange_51 : decode cX7_arrange 51 = .ok (.getfield 27, 3) := by decide +kernel
theorem dX7_arrange_54 : decode cX7_arrange 54 = .ok (.iload_n 3, 1) := by decide +kernel
theorem dX7_arrange_55 : decode cX7_arrange 55 = .ok (.iconst 1, 1) := by decide +kernel
theorem dX7_arrange_56 : decode cX7_arrange 56 = .ok (.isub, 1) := by decide +kernel
theorem dX7_arrange_57 : decode cX7_arrange 57 = .ok (.iaload, 1) := by decide +kernel
theorem dX7_arrange_58 : decode cX7_arrange 58 = .ok (.iastore, 1) := by decide +kernel
theorem dX7_arrange_59 : decode cX7_arrange 59 = .ok (.iinc 3 (-1), 3) := by decide +kernel
theorem dX7_arrange_62 : decode cX7_arrange 62 = .ok (.goto (-43), 3) := by decide +kernel
theorem dX7_arrange_65 : decode cX7_arrange 65 = .ok (.aload_n 0, 1) := by decide +kernel
theorem dX7_arrange_66 : decode cX7_arrange 66 = .ok (.getfield 27, 3) := by decide +kernel
theorem dX7_arrange_69 : decode cX7_arrange 69 = .ok (.iload_n 3, 1) := by decide +kernel
theorem dX7_arrange_70 : decode cX7_arrange 70 = .ok (.iload_n 2, 1) := by decide +kernel
theorem dX7_arrange_71 : decode cX7_arrange 71 = .ok (.iastore, 1) := by decide +kernel
theorem dX7_arrange_72 : decode cX7_arrange 72 = .ok (.iinc 1 1, 3) := by decide +kernel
theorem dX7_arrange_75 : decode cX7_arrange 75 = .ok (.goto (-73), 3) := by decide +kernel
theorem dX7_arrange_78 : decode cX7_arrange 78 = .ok (.return_, 1) := by decide +kernel
theorem dX7_differing_0 : decode cX7_differing 0 = .ok (.iconst 0, 1) := by decide +kernel
theorem dX7_differing_1 : decode cX7_differing 1 = .ok (.istore_n 2, 1) := by decide +kernel
theorem dX7_differing_2 : decode cX7_differing 2 = .ok (.iconst 0, 1) := by decide +kernel
theorem dX7_differing_3 : decode cX7_differing 3 = .ok (.istore_n 3, 1) := by decide +kernel
theorem dX7_differing_4 : decode cX7_differing 4 = .ok (.iload_n 3, 1) := by decide +kernel
theorem dX7_differing_5 : decode cX7_differing 5 = .ok (.aload_n 0, 1) := by decide +kernel
theorem dX7_differing_6 : decode cX7_differing 6 = .ok (.getfield 45, 3) := by decide +kernel
theorem dX7_differing_9 : decode cX7_differing 9 = .ok (.if_icmp .ge 34, 3) := by decide +kernel
theorem dX7_differing_12 : decode cX7_differing 12 = .ok (.aload_n 0, 1) := by decide +kernel
theorem dX7_differing_13 : decode cX7_differing 13 = .ok (.getfield 9, 3) := by decide +kernel
theorem dX7_differing_16 : decode cX7_differing 16 = .ok (.iload_n 3, 1) := by decide +kernel
theorem dX7_differing_17 : decode cX7_differing 17 = .ok (.iaload, 1) := by decide +kernel
theorem dX7_differing_18 : decode cX7_differing 18 = .ok (.istore 4, 2) := by decide +kernel
theorem dX7_differing_20 : decode cX7_differing 20 = .ok (.aload_n 1, 1) := by decide +kernel
theorem dX7_differing_21 : decode cX7_differing 21 = .ok (.iload 4, 2) := by decide +kernel
theorem dX7_differing_23 : decode cX7_differing 23 = .ok (.iaload, 1) := by decide +kernel
theorem dX7_differing_24 : decode cX7_differing 24 = .ok (.aload_n 0, 1) := by decide +kernel
theorem dX7_differing_25 : decode cX7_differing 25 = .ok (.getfield 18, 3) := by decide +kernel
theorem dX7_differing_28 : decode cX7_differing 28 = .ok (.iload 4, 2) := by decide +kernel
theorem dX7_differing_30 : decode cX7_differing 30 = .ok (.iaload, 1) := by decide +kernel
theorem dX7_differing_31 : decode cX7_differing 31 = .ok (.if_icmp .eq 6, 3) := by decide +kernel
theorem dX7_differing_34 : decode cX7_differing 34 = .ok (.iinc 2 1, 3) := by decide +kernel
theorem dX7_differing_37 : decode cX7_differing 37 = .ok (.iinc 3 1, 3) := by decide +kernel
theorem dX7_differing_40 : decode cX7_differing 40 = .ok (.goto (-36), 3) := by decide +kernel
theorem dX7_differing_43 : decode cX7_differing 43 = .ok (.iload_n 2, 1) := by decide +kernel
theorem dX7_differing_44 : decode cX7_differing 44 = .ok (.ireturn, 1) := by decide +kernel
theorem dX7_overtook_0 : decode cX7_overtook 0 = .ok (.aload_n 0, 1) := by decide +kernel
theorem dX7_overtook_1 : decode cX7_overtook 1 = .ok (.getfield 15, 3) := by decide +kernel
theorem dX7_overtook_4 : decode cX7_overtook 4 = .ok (.iload_n 1, 1) := by decide +kernel
theorem dX7_overtook_5 : decode cX7_overtook 5 = .ok (.iaload, 1) := by decide +kernel
theorem dX7_overtook_6 : decode cX7_overtook 6 = .ok (.bipush (-9), 2) := by decide +kernel
theorem dX7_overtook_8 : decode cX7_overtook 8 = .ok (.if_icmp .eq 48, 3) := by decide +kernel
theorem dX7_overtook_11 : decode cX7_overtook 11 = .ok (.aload_n 0, 1) := by decide +kernel
theorem dX7_overtook_12 : decode cX7_overtook 12 = .ok (.getfield 15, 3) := by decide +kernel
theorem dX7_overtook_15 : decode cX7_overtook 15 = .ok (.iload_n 2, 1) := by decide +kernel
theorem dX7_overtook_16 : decode cX7_overtook 16 = .ok (.iaload, 1) := by decide +kernel
theorem dX7_overtook_17 : decode cX7_overtook 17 = .ok (.bipush (-9), 2) := by decide +kernel
theorem dX7_overtook_19 : decode cX7_overtook 19 = .ok (.if_icmp .eq 37, 3) := by decide +kernel
theorem dX7_overtook_22 : decode cX7_overtook 22 = .ok (.aload_n 0, 1) := by decide +kernel
theorem dX7_overtook_23 : decode cX7_overtook 23 = .ok (.getfield 15, 3) := by decide +kernel
theorem dX7_overtook_26 : decode cX7_overtook 26 = .ok (.iload_n 1, 1) := by decide +kernel
theorem dX7_overtook_27 : decode cX7_overtook 27 = .ok (.iaload, 1) := by decide +kernel
theorem dX7_overtook_28 : decode cX7_overtook 28 = .ok (.aload_n 0, 1) := by decide +kernel
theorem dX7_overtook_29 : decode cX7_overtook 29 = .ok (.getfield 15, 3) := by decide +kernel
theorem dX7_overtook_32 : decode cX7_overtook 32 = .ok (.iload_n 2, 1) := by decide +kernel
theorem dX7_overtook_33 : decode cX7_overtook 33 = .ok (.iaload, 1) := by decide +kernel
theorem dX7_overtook_34 : decode cX7_overtook 34 = .ok (.if_icmp .le 22, 3) := by decide +kernel
theorem dX7_overtook_37 : decode cX7_overtook 37 = .ok (.aload_n 0, 1) := by decide +kernel
theorem dX7_overtook_38 : decode cX7_overtook 38 = .ok (.getfield 18, 3) := by decide +kernel
theorem dX7_overtook_41 : decode cX7_overtook 41 = .ok (.iload_n 1, 1) := by decide +kernel
theorem dX7_overtook_42 : decode cX7_overtook 42 = .ok (.iaload, 1) := by decide +kernel
theorem dX7_overtook_43 : decode cX7_overtook 43 = .ok (.aload_n 0, 1) := by decide +kernel
theorem dX7_overtook_44 : decode cX7_overtook 44 = .ok (.getfield 18, 3) := by decide +kernel
theorem dX7_overtook_47 : decode cX7_overtook 47 = .ok (.iload_n 2, 1) := by decide +kernel
theorem dX7_overtook_48 : decode cX7_overtook 48 = .ok (.iaload, 1) := by decide +kernel
theorem dX7_overtook_49 : decode cX7_overtook 49 = .ok (.if_icmp .ge 7, 3) := by decide +kernel
theorem dX7_overtook_52 : decode cX7_overtook 52 = .ok (.iconst 1, 1) := by decide +kernel
theorem dX7_overtook_53 : decode cX7_overtook 53 = .ok (.goto 4, 3) := by decide +kernel
theorem dX7_overtook_56 : decode cX7_overtook 56 = .ok (.iconst 0, 1) := by decide +kernel
theorem dX7_overtook_57 : decode cX7_overtook 57 = .ok (.ireturn, 1) := by decide +kernel
theorem dX8_init_0 : decode cX8_init 0 = .ok (.aload_n 0, 1) := by decide +kernel
theorem dX8_init_1 : decode cX8_init 1 = .ok (.invokespecial 3, 3) := by decide +kernel
theorem dX8_init_4 : decode cX8_init 4 = .ok (.aload_n 0, 1) := by decide +kernel
theorem dX8_init_5 : decode cX8_init 5 = .ok (.new 9, 3) := by decide +kernel
theorem dX8_init_8 : decode cX8_init 8 = .ok (.dup, 1) := by decide +kernel
theorem dX8_init_9 : decode cX8_init 9 = .ok (.invokespecial 11, 3) := by decide +kernel
theorem dX8_init_12 : decode cX8_init 12 = .ok (.putfield 12, 3) := by decide +kernel
theorem dX8_init_15 : decode cX8_init 15 = .ok (.aload_n 0, 1) := by decide +kernel
theorem dX8_init_16 : decode cX8_init 16 = .ok (.new 16, 3) := by decide +kernel
theorem dX8_init_19 : decode cX8_init 19 = .ok (.dup, 1) := by decide +kernel
theorem dX8_init_20 : decode cX8_init 20 = .ok (.invokespecial 18, 3) := by decide +kernel
theorem dX8_init_23 : decode cX8_init 23 = .ok (.putfield 19, 3) := by decide +kernel
theorem dX8_init_26 : decode cX8_init 26 = .ok (.aload_n 0, 1) := by decide +kernel
theorem dX8_init_27 : decode cX8_init 27 = .ok (.new 23, 3) := by decide +kernel
theorem dX8_init_30 : decode cX8_init 30 = .ok (.dup, 1) := by decide +kernel
theorem dX8_init_31 : decode cX8_init 31 = .ok (.invokespecial 25, 3) := by decide +kernel
theorem dX8_init_34 : decode cX8_init 34 = .ok (.putfield 26, 3) := by decide +kernel
theorem dX8_init_37 : decode cX8_init 37 = .ok (.aload_n 0, 1) := by decide +kernel
theorem dX8_init_38 : decode cX8_init 38 = .ok (.new 30, 3) := by decide +kernel
theorem dX8_init_41 : decode cX8_init 41 = .ok (.dup, 1) := by decide +kernel
theorem dX8_init_42 : decode cX8_init 42 = .ok (.invokespecial 32, 3) := by decide +kernel
theorem dX8_init_45 : decode cX8_init 45 = .ok (.putfield 33, 3) := by decide +kernel
theorem dX8_init_48 : decode cX8_init 48 = .ok (.aload_n 0, 1) := by decide +kernel
theorem dX8_init_49 : decode cX8_init 49 = .ok (.new 37, 3) := by decide +kernel
theorem dX8_init_52 : decode cX8_init 52 = .ok (.dup, 1) := by decide +kernel
theorem dX8_init_53 : decode cX8_init 53 = .ok (.invokespecial 39, 3) := by decide +kernel
theorem dX8_init_56 : decode cX8_init 56 = .ok (.putfield 40, 3) := by decide +kernel
theorem dX8_init_59 : decode cX8_init 59 = .ok (.aload_n 0, 1) := by decide +kernel
theorem dX8_init_60 : decode cX8_init 60 = .ok (.new 44, 3) := by decide +kernel
theorem dX8_init_63 : decode cX8_init 63 = .ok (.dup, 1) := by decide +kernel
theorem dX8_init_64 : decode cX8_init 64 = .ok (.invokespecial 46, 3) := by decide +kernel
theorem dX8_init_67 : decode cX8_init 67 = .ok (.putfield 47, 3) := by decide +kernel
theorem dX8_init_70 : decode cX8_init 70 = .ok (.aload_n 0, 1) := by decide +kernel
theorem dX8_init_71 : decode cX8_init 71 = .ok (.new 51, 3) := by decide +kernel
theorem dX8_init_74 : decode cX8_init 74 = .ok (.dup, 1) := by decide +kernel
theorem dX8_init_75 : decode cX8_init 75 = .ok (.invokespecial 53, 3) := by decide +kernel
theorem dX8_init_78 : decode cX8_init 78 = .ok (.putfield 54, 3) := by decide +kernel
theorem dX8_init_81 : decode cX8_init 81 = .ok (.aload_n 0, 1) := by decide +kernel
theorem dX8_init_82 : decode cX8_init 82 = .ok (.new 58, 3) := by decide +kernel
theorem dX8_init_85 : decode cX8_init 85 = .ok (.dup, 1) := by decide +kernel
theorem dX8_init_86 : decode cX8_init 86 = .ok (.invokespecial 60, 3) := by decide +kernel
theorem dX8_init_89 : decode cX8_init 89 = .ok (.putfield 61, 3) := by decide +kernel
theorem dX8_init_92 : decode cX8_init 92 = .ok (.return_, 1) := by decide +kernel
theorem dX8_wrestler_0 : decode cX8_wrestler 0 = .ok (.iload_n 1, 1) := by decide +kernel
theorem dX8_wrestler_1 : decode cX8_wrestler 1 = .ok (.invokestatic 65, 3) := by decide +kernel
theorem dX8_wrestler_4 : decode cX8_wrestler 4 = .ok (.ifCond .eq 23, 3) := by decide +kernel
theorem dX8_wrestler_7 : decode cX8_wrestler 7 = .ok (.iload_n 2, 1) := by decide +kernel
theorem dX8_wrestler_8 : decode cX8_wrestler 8 = .ok (.invokestatic 69, 3) := by decide +kernel
theorem dX8_wrestler_11 : decode cX8_wrestler 11 = .ok (.ifCond .eq 16, 3) := by decide +kernel
theorem dX8_wrestler_14 : decode cX8_wrestler 14 = .ok (.iload_n 3, 1) := by decide +kernel
theorem dX8_wrestler_15 : decode cX8_wrestler 15 = .ok (.bipush (-9), 2) := by decide +kernel
theorem dX8_wrestler_17 : decode cX8_wrestler 17 = .ok (.if_icmp .eq 12, 3) := by decide +kernel
theorem dX8_wrestler_20 : decode cX8_wrestler 20 = .ok (.iload_n 3, 1) := by decide +kernel
theorem dX8_wrestler_21 : decode cX8_wrestler 21 = .ok (.invokestatic 69, 3) := by decide +kernel
theorem dX8_wrestler_24 : decode cX8_wrestler 24 = .ok (.ifCond .ne 5, 3) := by decide +kernel
theorem dX8_wrestler_27 : decode cX8_wrestler 27 = .ok (.iconst (-1), 1) := by decide +kernel
theorem dX8_wrestler_28 : decode cX8_wrestler 28 = .ok (.ireturn, 1) := by decide +kernel
theorem dX8_wrestler_29 : decode cX8_wrestler 29 = .ok (.aload_n 0, 1) := by decide +kernel
theorem dX8_wrestler_30 : decode cX8_wrestler 30 = .ok (.getfield 19, 3) := by decide +kernel
theorem dX8_wrestler_33 : decode cX8_wrestler 33 = .ok (.getfield 72, 3) := by decide +kernel
theorem dX8_wrestler_36 : decode cX8_wrestler 36 = .ok (.bipush 16, 2) := by decide +kernel
theorem dX8_wrestler_38 : decode cX8_wrestler 38 = .ok (.if_icmp .lt 6, 3) := by decide +kernel
theorem dX8_wrestler_41 : decode cX8_wrestler 41 = .ok (.bipush (-2), 2) := by decide +kernel
theorem dX8_wrestler_43 : decode cX8_wrestler 43 = .ok (.ireturn, 1) := by decide +kernel
theorem dX8_wrestler_44 : decode cX8_wrestler 44 = .ok (.aload_n 0, 1) := by decide +kernel
theorem dX8_wrestler_45 : decode cX8_wrestler 45 = .ok (.getfield 33, 3) := by decide +kernel
theorem dX8_wrestler_48 : decode cX8_wrestler 48 = .ok (.getfield 76, 3) := by decide +kernel
theorem dX8_wrestler_51 : decode cX8_wrestler 51 = .ok (.ifCond .eq 6, 3) := by decide +kernel
theorem dX8_wrestler_54 : decode cX8_wrestler 54 = .ok (.bipush (-4), 2) := by decide +kernel
theorem dX8_wrestler_56 : decode cX8_wrestler 56 = .ok (.ireturn, 1) := by decide +kernel
theorem dX8_wrestler_57 : decode cX8_wrestler 57 = .ok (.aload_n 0, 1) := by decide +kernel
theorem dX8_wrestler_58 : decode cX8_wrestler 58 = .ok (.getfield 54, 3) := by decide +kernel
theorem dX8_wrestler_61 : decode cX8_wrestler 61 = .ok (.iconst 0, 1) := by decide +kernel
theorem dX8_wrestler_62 : decode cX8_wrestler 62 = .ok (.putfield 80, 3) := by decide +kernel
theorem dX8_wrestler_65 : decode cX8_wrestler 65 = .ok (.aload_n 0, 1) := by decide +kernel
theorem dX8_wrestler_66 : decode cX8_wrestler 66 = .ok (.getfield 19, 3) := by decide +kernel
theorem dX8_wrestler_69 : decode cX8_wrestler 69 = .ok (.iload_n 1, 1) := by decide +kernel
theorem dX8_wrestler_70 : decode cX8_wrestler 70 = .ok (.iload_n 2, 1) := by decide +kernel
theorem dX8_wrestler_71 : decode cX8_wrestler 71 = .ok (.iload_n 3, 1) := by decide +kernel
theorem dX8_wrestler_72 : decode cX8_wrestler 72 = .ok (.invokevirtual 83, 3) := by decide +kernel
theorem dX8_wrestler_75 : decode cX8_wrestler 75 = .ok (.ireturn, 1) := by decide +kernel
theorem dX8_leave_0 : decode cX8_leave 0 = .ok (.aload_n 0, 1) := by decide +kernel
theorem dX8_leave_1 : decode cX8_leave 1 = .ok (.getfield 19, 3) := by decide +kernel
theorem dX8_leave_4 : decode cX8_leave 4 = .ok (.iload_n 1, 1) := by decide +kernel
theorem dX8_leave_5 : decode cX8_leave 5 = .ok (.invokevirtual 87, 3) := by decide +kernel
theorem dX8_leave_8 : decode cX8_leave 8 = .ok (.ifCond .ne 5, 3) := by decide +kernel
theorem dX8_leave_11 : decode cX8_leave 11 = .ok (.iconst (-1), 1) := by decide +kernel
theorem dX8_leave_12 : decode cX8_leave 12 = .ok (.ireturn, 1) := by decide +kernel
theorem dX8_leave_13 : decode cX8_leave 13 = .ok (.aload_n 0, 1) := by decide +kernel
theorem dX8_leave_14 : decode cX8_leave 14 = .ok (.getfield 33, 3) := by decide +kernel
theorem dX8_leave_17 : decode cX8_leave 17 = .ok (.getfield 76, 3) := by decide +kernel
theorem dX8_leave_20 : decode cX8_leave 20 = .ok (.ifCond .eq 6, 3) := by decide +kernel
theorem dX8_leave_23 : decode cX8_leave 23 = .ok (.bipush (-4), 2) := by decide +kernel
theorem dX8_leave_25 : decode cX8_leave 25 = .ok (.ireturn, 1) := by decide +kernel
theorem dX8_leave_26 : decode cX8_leave 26 = .ok (.aload_n 0, 1) := by decide +kernel
theorem dX8_leave_27 : decode cX8_leave 27 = .ok (.getfield 19, 3) := by decide +kernel
theorem dX8_leave_30 : decode cX8_leave 30 = .ok (.getfield 90, 3) := by decide +kernel
theorem dX8_leave_33 : decode cX8_leave 33 = .ok (.iload_n 1, 1) := by decide +kernel
theorem dX8_leave_34 : decode cX8_leave 34 = .ok (.baload, 1) := by decide +kernel
theorem dX8_leave_35 : decode cX8_leave 35 = .ok (.ifCond .eq 12, 3) := by decide +kernel
theorem dX8_leave_38 : decode cX8_leave 38 = .ok (.aload_n 0, 1) := by decide +kernel
theorem dX8_leave_39 : decode cX8_leave 39 = .ok (.getfield 12, 3) := by decide +kernel
theorem dX8_leave_42 : decode cX8_leave 42 = .ok (.iconst 1, 1) := by decide +kernel
theorem dX8_leave_43 : decode cX8_leave 43 = .ok (.invokevirtual 94, 3) := by decide +kernel
theorem dX8_leave_46 : decode cX8_leave 46 = .ok (.ireturn, 1) := by decide +kernel
theorem dX8_leave_47 : decode cX8_leave 47 = .ok (.aload_n 0, 1) := by decide +kernel
theorem dX8_leave_48 : decode cX8_leave 48 = .ok (.getfield 54, 3) := by decide +kernel
theorem dX8_leave_51 : decode cX8_leave 51 = .ok (.iconst 0, 1) := by decide +kernel
theorem dX8_leave_52 : decode cX8_leave 52 = .ok (.putfield 80, 3) := by decide +kernel
theorem dX8_leave_55 : decode cX8_leave 55 = .ok (.aload_n 0, 1) := by decide +kernel
theorem dX8_leave_56 : decode cX8_leave 56 = .ok (.getfield 19, 3) := by decide +kernel
theorem dX8_leave_59 : decode cX8_leave 59 = .ok (.iload_n 1, 1) := by decide +kernel
theorem dX8_leave_60 : decode cX8_leave 60 = .ok (.invokevirtual 98, 3) := by decide +kernel
theorem dX8_leave_63 : decode cX8_leave 63 = .ok (.ireturn, 1) := by decide +kernel
theorem dX8_told_0 : decode cX8_told 0 = .ok (.iload_n 2, 1) := by decide +kernel
theorem dX8_told_1 : decode cX8_told 1 = .ok (.ifCond .lt 9, 3) := by decide +kernel
theorem dX8_told_4 : decode cX8_told 4 = .ok (.iload_n 2, 1) := by decide +kernel
theorem dX8_told_5 : decode cX8_told 5 = .ok (.bipush 7, 2) := by decide +kernel
theorem dX8_told_7 : decode cX8_told 7 = .ok (.if_icmp .lt 5, 3) := by decide +kernel
theorem dX8_told_10 : decode cX8_told 10 = .ok (.iconst (-1), 1) := by decide +kernel
theorem dX8_told_11 : decode cX8_told 11 = .ok (.ireturn, 1) := by decide +kernel
theorem dX8_told_12 : decode cX8_told 12 = .ok (.aload_n 0, 1) := by decide +kernel
theorem dX8_told_13 : decode cX8_told 13 = .ok (.iload_n 1, 1) := by decide +kernel
theorem dX8_told_14 : decode cX8_told 14 = .ok (.invokevirtual 101, 3) := by decide +kernel
theorem dX8_told_17 : decode cX8_told 17 = .ok (.istore_n 3, 1) := by decide +kernel
theorem dX8_told_18 : decode cX8_told 18 = .ok (.iload_n 3, 1) := by decide +kernel
theorem dX8_told_19 : decode cX8_told 19 = .ok (.ifCond .eq 7, 3) := by decide +kernel
theorem dX8_told_22 : decode cX8_told 22 = .ok (.iload_n 3, 1) := by decide +kernel
theorem dX8_told_23 : decode cX8_told 23 = .ok (.goto 12, 3) := by decide +kernel
theorem dX8_told_26 : decode cX8_told 26 = .ok (.aload_n 0, 1) := by decide +kernel
theorem dX8_told_27 : decode cX8_told 27 = .ok (.getfield 19, 3) := by decide +kernel
theorem dX8_told_30 : decode cX8_told 30 = .ok (.iload_n 1, 1) := by decide +kernel
theorem dX8_told_31 : decode cX8_told 31 = .ok (.iload_n 2, 1) := by decide +kernel
theorem dX8_told_32 : decode cX8_told 32 = .ok (.invokevirtual 104, 3) := by decide +kernel
theorem dX8_told_35 : decode cX8_told 35 = .ok (.ireturn, 1) := by decide +kernel
theorem dX8_is_0 : decode cX8_is 0 = .ok (.iload_n 2, 1) := by decide +kernel
theorem dX8_is_1 : decode cX8_is 1 = .ok (.invokestatic 65, 3) := by decide +kernel
theorem dX8_is_4 : decode cX8_is 4 = .ok (.ifCond .ne 5, 3) := by decide +kernel
theorem dX8_is_7 : decode cX8_is 7 = .ok (.iconst (-1), 1) := by decide +kernel
theorem dX8_is_8 : decode cX8_is 8 = .ok (.ireturn, 1) := by decide +kernel
theorem dX8_is_9 : decode cX8_is 9 = .ok (.aload_n 0, 1) := by decide +kernel
theorem dX8_is_10 : decode cX8_is 10 = .ok (.iload_n 1, 1) := by decide +kernel
theorem dX8_is_11 : decode cX8_is 11 = .ok (.invokevirtual 101, 3) := by decide +kernel
theorem dX8_is_14 : decode cX8_is 14 = .ok (.istore_n 3, 1) := by decide +kernel
theorem dX8_is_15 : decode cX8_is 15 = .ok (.iload_n 3, 1) := by decide +kernel
theorem dX8_is_16 : decode cX8_is 16 = .ok (.ifCond .eq 5, 3) := by decide +kernel
theorem dX8_is_19 : decode cX8_is 19 = .ok (.iload_n 3, 1) := by decide +kernel
theorem dX8_is_20 : decode cX8_is 20 = .ok (.ireturn, 1) := by decide +kernel
theorem dX8_is_21 : decode cX8_is 21 = .ok (.aload_n 0, 1) := by decide +kernel
theorem dX8_is_22 : decode cX8_is 22 = .ok (.getfield 19, 3) := by decide +kernel
theorem dX8_is_25 : decode cX8_is 25 = .ok (.iload_n 1, 1) := by decide +kernel
theorem dX8_is_26 : decode cX8_is 26 = .ok (.iload_n 2, 1) := by decide +kernel
theorem dX8_is_27 : decode cX8_is 27 = .ok (.invokevirtual 108, 3) := by decide +kernel
theorem dX8_is_30 : decode cX8_is 30 = .ok (.ifCond .eq 7, 3) := by decide +kernel
theorem dX8_is_33 : decode cX8_is 33 = .ok (.iconst 1, 1) := by decide +kernel
theorem dX8_is_34 : decode cX8_is 34 = .ok (.goto 4, 3) := by decide +kernel
theorem dX8_is_37 : decode cX8_is 37 = .ok (.iconst 0, 1) := by decide +kernel
theorem dX8_is_38 : decode cX8_is 38 = .ok (.ireturn, 1) := by decide +kernel
theorem dX8_on_0 : decode cX8_on 0 = .ok (.iload_n 1, 1) := by decide +kernel
theorem dX8_on_1 : decode cX8_on 1 = .ok (.ifCond .lt 14, 3) := by decide +kernel
theorem dX8_on_4 : decode cX8_on 4 = .ok (.iload_n 1, 1) := by decide +kernel
theorem dX8_on_5 : decode cX8_on 5 = .ok (.aload_n 0, 1) := by decide +kernel
theorem dX8_on_6 : decode cX8_on 6 = .ok (.getfield 19, 3) := by decide +kernel
theorem dX8_on_9 : decode cX8_on 9 = .ok (.getfield 112, 3) := by decide +kernel
theorem dX8_on_12 : decode cX8_on 12 = .ok (.if_icmp .lt 6, 3) := by decide +kernel
theorem dX8_on_15 : decode cX8_on 15 = .ok (.bipush (-9), 2) := by decide +kernel
theorem dX8_on_17 : decode cX8_on 17 = .ok (.ireturn, 1) := by decide +kernel
theorem dX8_on_18 : decode cX8_on 18 = .ok (.aload_n 0, 1) := by decide +kernel
theorem dX8_on_19 : decode cX8_on 19 = .ok (.getfield 19, 3) := by decide +kernel
theorem dX8_on_22 : decode cX8_on 22 = .ok (.getfield 115, 3) := by decide +kernel
theorem dX8_on_25 : decode cX8_on 25 = .ok (.iload_n 1, 1) := by decide +kernel
theorem dX8_on_26 : decode cX8_on 26 = .ok (.iaload, 1) := by decide +kernel
theorem dX8_on_27 : decode cX8_on 27 = .ok (.ireturn, 1) := by decide +kernel
theorem dX8_mark_0 : decode cX8_mark 0 = .ok (.iload_n 2, 1) := by decide +kernel
theorem dX8_mark_1 : decode cX8_mark 1 = .ok (.invokestatic 65, 3) := by decide +kernel
theorem dX8_mark_4 : decode cX8_mark 4 = .ok (.ifCond .eq 7, 3) := by decide +kernel
theorem dX8_mark_7 : decode cX8_mark 7 = .ok (.iload_n 2, 1) := by decide +kernel
theorem dX8_mark_8 : decode cX8_mark 8 = .ok (.ifCond .ne 5, 3) := by decide +kernel
theorem dX8_mark_11 : decode cX8_mark 11 = .ok (.iconst (-1), 1) := by decide +kernel
theorem dX8_mark_12 : decode cX8_mark 12 = .ok (.ireturn, 1) := by decide +kernel
theorem dX8_mark_13 : decode cX8_mark 13 = .ok (.aload_n 0, 1) := by decide +kernel
theorem dX8_mark_14 : decode cX8_mark 14 = .ok (.iload_n 1, 1) := by decide +kernel
theorem dX8_mark_15 : decode cX8_mark 15 = .ok (.invokevirtual 101, 3) := by decide +kernel
theorem dX8_mark_18 : decode cX8_mark 18 = .ok (.istore_n 3, 1) := by decide +kernel
theorem dX8_mark_19 : decode cX8_mark 19 = .ok (.iload_n 3, 1) := by decide +kernel
theorem dX8_mark_20 : decode cX8_mark 20 = .ok (.ifCond .eq 5, 3) := by decide +kernel
theorem dX8_mark_23 : decode cX8_mark 23 = .ok (.iload_n 3, 1) := by decide +kernel
theorem dX8_mark_24 : decode cX8_mark 24 = .ok (.ireturn, 1) := by decide +kernel
theorem dX8_mark_25 : decode cX8_mark 25 = .ok (.aload_n 0, 1) := by decide +kernel
theorem dX8_mark_26 : decode cX8_mark 26 = .ok (.getfield 19, 3) := by decide +kernel
theorem dX8_mark_29 : decode cX8_mark 29 = .ok (.iload_n 1, 1) := by decide +kernel
theorem dX8_mark_30 : decode cX8_mark 30 = .ok (.iload_n 2, 1) := by decide +kernel
theorem dX8_mark_31 : decode cX8_mark 31 = .ok (.invokevirtual 108, 3) := by decide +kernel
theorem dX8_mark_34 : decode cX8_mark 34 = .ok (.ifCond .eq 15, 3) := by decide +kernel
theorem dX8_mark_37 : decode cX8_mark 37 = .ok (.aload_n 0, 1) := by decide +kernel
theorem dX8_mark_38 : decode cX8_mark 38 = .ok (.getfield 19, 3) := by decide +kernel
theorem dX8_mark_41 : decode cX8_mark 41 = .ok (.getfield 119, 3) := by decide +kernel
theorem dX8_mark_44 : decode cX8_mark 44 = .ok (.iload_n 1, 1) := by decide +kernel
theorem dX8_mark_45 : decode cX8_mark 45 = .ok (.iaload, 1) := by decide +kernel
theorem dX8_mark_46 : decode cX8_mark 46 = .ok (.goto 11, 3) := by decide +kernel
theorem dX8_mark_49 : decode cX8_mark 49 = .ok (.aload_n 0, 1) := by decide +kernel
theorem dX8_mark_50 : decode cX8_mark 50 = .ok (.getfield 12, 3) := by decide +kernel
theorem dX8_mark_53 : decode cX8_mark 53 = .ok (.iconst 3, 1) := by decide +kernel
theorem dX8_mark_54 : decode cX8_mark 54 = .ok (.invokevirtual 94, 3) := by decide +kernel
theorem dX8_mark_57 : decode cX8_mark 57 = .ok (.ireturn, 1) := by decide +kernel
theorem dX8_mean_0 : decode cX8_mean 0 = .ok (.iload_n 1, 1) := by decide +kernel
theorem dX8_mean_1 : decode cX8_mean 1 = .ok (.invokestatic 69, 3) := by decide +kernel
theorem dX8_mean_4 : decode cX8_mean 4 = .ok (.ifCond .ne 5, 3) := by decide +kernel
theorem dX8_mean_7 : decode cX8_mean 7 = .ok (.iconst (-1), 1) := by decide +kernel
theorem dX8_mean_8 : decode cX8_mean 8 = .ok (.ireturn, 1) := by decide +kernel
theorem dX8_mean_9 : decode cX8_mean 9 = .ok (.iconst 0, 1) := by decide +kernel
theorem dX8_mean_10 : decode cX8_mean 10 = .ok (.istore_n 2, 1) := by decide +kernel
theorem dX8_mean_11 : decode cX8_mean 11 = .ok (.iconst 0, 1) := by decide +kernel
theorem dX8_mean_12 : decode cX8_mean 12 = .ok (.istore_n 3, 1) := by decide +kernel
theorem dX8_mean_13 : decode cX8_mean 13 = .ok (.iconst 0, 1) := by decide +kernel
theorem dX8_mean_14 : decode cX8_mean 14 = .ok (.istore 4, 2) := by decide +kernel
theorem dX8_mean_16 : decode cX8_mean 16 = .ok (.iload 4, 2) := by decide +kernel
theorem dX8_mean_18 : decode cX8_mean 18 = .ok (.aload_n 0, 1) := by decide +kernel
theorem dX8_mean_19 : decode cX8_mean 19 = .ok (.getfield 19, 3) := by decide +kernel
theorem dX8_mean_22 : decode cX8_mean 22 = .ok (.getfield 112, 3) := by decide +kernel
theorem dX8_mean_25 : decode cX8_mean 25 = .ok (.if_icmp .ge 51, 3) := by decide +kernel
theorem dX8_mean_28 : decode cX8_mean 28 = .ok (.aload_n 0, 1) := by decide +kernel
theorem dX8_mean_29 : decode cX8_mean 29 = .ok (.getfield 19, 3) := by decide +kernel
theorem dX8_mean_32 : decode cX8_mean 32 = .ok (.getfield 115, 3) := by decide +kernel
theorem dX8_mean_35 : decode cX8_mean 35 = .ok (.iload 4, 2) := by decide +kernel
theorem dX8_mean_37 : decode cX8_mean 37 = .ok (.iaload, 1) := by decide +kernel
theorem dX8_mean_38 : decode cX8_mean 38 = .ok (.istore 5, 2) := by decide +kernel
theorem dX8_mean_40 : decode cX8_mean 40 = .ok (.aload_n 0, 1) := by decide +kernel
theorem dX8_mean_41 : decode cX8_mean 41 = .ok (.getfield 19, 3) := by decide +kernel
theorem dX8_mean_44 : decode cX8_mean 44 = .ok (.getfield 122, 3) := by decide +kernel
theorem dX8_mean_47 : decode cX8_mean 47 = .ok (.iload 5, 2) := by decide +kernel
theorem dX8_mean_49 : decode cX8_mean 49 = .ok (.iaload, 1) := by decide +kernel
theorem dX8_mean_50 : decode cX8_mean 50 = .ok (.iload_n 1, 1) := by decide +kernel
theorem dX8_mean_51 : decode cX8_mean 51 = .ok (.if_icmp .ne 19, 3) := by decide +kernel
theorem dX8_mean_54 : decode cX8_mean 54 = .ok (.iload_n 2, 1) := by decide +kernel
theorem dX8_mean_55 : decode cX8_mean 55 = .ok (.aload_n 0, 1) := by decide +kernel
theorem dX8_mean_56 : decode cX8_mean 56 = .ok (.getfield 19, 3) := by decide +kernel
theorem dX8_mean_59 : decode cX8_mean 59 = .ok (.getfield 125, 3) := by decide +kernel
theorem dX8_mean_62 : decode cX8_mean 62 = .ok (.iload 5, 2) := by decide +kernel
theorem dX8_mean_64 : decode cX8_mean 64 = .ok (.iaload, 1) := by decide +kernel
theorem dX8_mean_65 : decode cX8_mean 65 = .ok (.iadd, 1) := by decide +kernel
theorem dX8_mean_66 : decode cX8_mean 66 = .ok (.istore_n 2, 1) := by decide +kernel
theorem dX8_mean_67 : decode cX8_mean 67 = .ok (.iinc 3 1, 3) := by decide +kernel
theorem dX8_mean_70 : decode cX8_mean 70 = .ok (.iinc 4 1, 3) := by decide +kernel
theorem dX8_mean_73 : decode cX8_mean 73 = .ok (.goto (-57), 3) := by decide +kernel
theorem dX8_mean_76 : decode cX8_mean 76 = .ok (.iload_n 3, 1) := by decide +kernel
theorem dX8_mean_77 : decode cX8_mean 77 = .ok (.ifCond .ne 14, 3) := by decide +kernel
theorem dX8_mean_80 : decode cX8_mean 80 = .ok (.aload_n 0, 1) := by decide +kernel
theorem dX8_mean_81 : decode cX8_mean 81 = .ok (.getfield 12, 3) := by decide +kernel
theorem dX8_mean_84 : decode cX8_mean 84 = .ok (.iconst 4, 1) := by decide +kernel
theorem dX8_mean_85 : decode cX8_mean 85 = .ok (.invokevirtual 94, 3) := by decide +kernel
theorem dX8_mean_88 : decode cX8_mean 88 = .ok (.goto 6, 3) := by decide +kernel
theorem dX8_mean_91 : decode cX8_mean 91 = .ok (.iload_n 2, 1) := by decide +kernel
theorem dX8_mean_92 : decode cX8_mean 92 = .ok (.iload_n 3, 1) := by decide +kernel
theorem dX8_mean_93 : decode cX8_mean 93 = .ok (.idiv, 1) := by decide +kernel
theorem dX8_mean_94 : decode cX8_mean 94 = .ok (.ireturn, 1) := by decide +kernel
theorem dX8_sheet_0 : decode cX8_sheet 0 = .ok (.iload_n 1, 1) := by decide +kernel
theorem dX8_sheet_1 : decode cX8_sheet 1 = .ok (.invokestatic 128, 3) := by decide +kernel
theorem dX8_sheet_4 : decode cX8_sheet 4 = .ok (.ifCond .eq 9, 3) := by decide +kernel
theorem dX8_sheet_7 : decode cX8_sheet 7 = .ok (.iload_n 2, 1) := by decide +kernel
theorem dX8_sheet_8 : decode cX8_sheet 8 = .ok (.bipush 16, 2) := by decide +kernel
theorem dX8_sheet_10 : decode cX8_sheet 10 = .ok (.if_icmp .le 5, 3) := by decide +kernel
theorem dX8_sheet_13 : decode cX8_sheet 13 = .ok (.iconst (-1), 1) := by decide +kernel
theorem dX8_sheet_14 : decode cX8_sheet 14 = .ok (.ireturn, 1) := by decide +kernel
theorem dX8_sheet_15 : decode cX8_sheet 15 = .ok (.iload_n 2, 1) := by decide +kernel
theorem dX8_sheet_16 : decode cX8_sheet 16 = .ok (.ifCond .ge 12, 3) := by decide +kernel
theorem dX8_sheet_19 : decode cX8_sheet 19 = .ok (.aload_n 0, 1) := by decide +kernel
theorem dX8_sheet_20 : decode cX8_sheet 20 = .ok (.getfield 12, 3) := by decide +kernel
theorem dX8_sheet_23 : decode cX8_sheet 23 = .ok (.iconst 5, 1) := by decide +kernel
theorem dX8_sheet_24 : decode cX8_sheet 24 = .ok (.invokevirtual 94, 3) := by decide +kernel
theorem dX8_sheet_27 : decode cX8_sheet 27 = .ok (.ireturn, 1) := by decide +kernel
theorem dX8_sheet_28 : decode cX8_sheet 28 = .ok (.aload_n 0, 1) := by decide +kernel
theorem dX8_sheet_29 : decode cX8_sheet 29 = .ok (.getfield 26, 3) := by decide +kernel
theorem dX8_sheet_32 : decode cX8_sheet 32 = .ok (.iload_n 1, 1) := by decide +kernel
theorem dX8_sheet_33 : decode cX8_sheet 33 = .ok (.iload_n 2, 1) := by decide +kernel
theorem dX8_sheet_34 : decode cX8_sheet 34 = .ok (.invokevirtual 131, 3) := by decide +kernel
theorem dX8_sheet_37 : decode cX8_sheet 37 = .ok (.iload_n 2, 1) := by decide +kernel
theorem dX8_sheet_38 : decode cX8_sheet 38 = .ok (.ireturn, 1) := by decide +kernel
theorem dX8_lay_0 : decode cX8_lay 0 = .ok (.iload_n 1, 1) := by decide +kernel
theorem dX8_lay_1 : decode cX8_lay 1 = .ok (.invokestatic 128, 3) := by decide +kernel
theorem dX8_lay_4 : decode cX8_lay 4 = .ok (.ifCond .ne 5, 3) := by decide +kernel
theorem dX8_lay_7 : decode cX8_lay 7 = .ok (.iconst (-1), 1) := by decide +kernel
theorem dX8_lay_8 : decode cX8_lay 8 = .ok (.ireturn, 1) := by decide +kernel
theorem dX8_lay_9 : decode cX8_lay 9 = .ok (.aload_n 0, 1) := by decide +kernel
theorem dX8_lay_10 : decode cX8_lay 10 = .ok (.getfield 26, 3) := by decide +kernel
theorem dX8_lay_13 : decode cX8_lay 13 = .ok (.iload_n 1, 1) := by decide +kernel
theorem dX8_lay_14 : decode cX8_lay 14 = .ok (.invokevirtual 135, 3) := by decide +kernel
theorem dX8_lay_17 : decode cX8_lay 17 = .ok (.ifCond .eq 12, 3) := by decide +kernel
theorem dX8_lay_20 : decode cX8_lay 20 = .ok (.aload_n 0, 1) := by decide +kernel
theorem dX8_lay_21 : decode cX8_lay 21 = .ok (.getfield 12, 3) := by decide +kernel
theorem dX8_lay_24 : decode cX8_lay 24 = .ok (.iconst 1, 1) := by decide +kernel
theorem dX8_lay_25 : decode cX8_lay 25 = .ok (.invokevirtual 94, 3) := by decide +kernel
theorem dX8_lay_28 : decode cX8_lay 28 = .ok (.ireturn, 1) := by decide +kernel
theorem dX8_lay_29 : decode cX8_lay 29 = .ok (.iload_n 2, 1) := by decide +kernel
theorem dX8_lay_30 : decode cX8_lay 30 = .ok (.ifCond .lt 16, 3) := by decide +kernel
theorem dX8_lay_33 : decode cX8_lay 33 = .ok (.iload_n 2, 1) := by decide +kernel
theorem dX8_lay_34 : decode cX8_lay 34 = .ok (.aload_n 0, 1) := by decide +kernel
theorem dX8_lay_35 : decode cX8_lay 35 = .ok (.getfield 26, 3) := by decide +kernel
theorem dX8_lay_38 : decode cX8_lay 38 = .ok (.getfield 138, 3) := by decide +kernel
theorem dX8_lay_41 : decode cX8_lay 41 = .ok (.iload_n 1, 1) := by decide +kernel
theorem dX8_lay_42 : decode cX8_lay 42 = .ok (.iaload, 1) := by decide +kernel
theorem dX8_lay_43 : decode cX8_lay 43 = .ok (.if_icmp .lt 12, 3) := by decide +kernel
theorem dX8_lay_46 : decode cX8_lay 46 = .ok (.aload_n 0, 1) := by decide +kernel
theorem dX8_lay_47 : decode cX8_lay 47 = .ok (.getfield 12, 3) := by decide +kernel
theorem dX8_lay_50 : decode cX8_lay 50 = .ok (.iconst 2, 1) := by decide +kernel
theorem dX8_lay_51 : decode cX8_lay 51 = .ok (.invokevirtual 94, 3) := by decide +kernel
theorem dX8_lay_54 : decode cX8_lay 54 = .ok (.ireturn, 1) := by decide +kernel
theorem dX8_lay_55 : decode cX8_lay 55 = .ok (.sipush 1000, 3) := by decide +kernel
theorem dX8_lay_58 : decode cX8_lay 58 = .ok (.aload_n 0, 1) := by decide +kernel
theorem dX8_lay_59 : decode cX8_lay 59 = .ok (.getfield 26, 3) := by decide +kernel
theorem dX8_lay_62 : decode cX8_lay 62 = .ok (.iload_n 1, 1) := by decide +kernel
theorem dX8_lay_63 : decode cX8_lay 63 = .ok (.iload_n 2, 1) := by decide +kernel
theorem dX8_lay_64 : decode cX8_lay 64 = .ok (.iload_n 3, 1) := by decide +kernel
theorem dX8_lay_65 : decode cX8_lay 65 = .ok (.i2b, 1) := by decide +kernel
theorem dX8_lay_66 : decode cX8_lay 66 = .ok (.invokevirtual 141, 3) := by decide +kernel
theorem dX8_lay_69 : decode cX8_lay 69 = .ok (.iadd, 1) := by decide +kernel
theorem dX8_lay_70 : decode cX8_lay 70 = .ok (.ireturn, 1) := by decide +kernel
theorem dX8_tear_0 : decode cX8_tear 0 = .ok (.iload_n 1, 1) := by decide +kernel
theorem dX8_tear_1 : decode cX8_tear 1 = .ok (.invokestatic 128, 3) := by decide +kernel
theorem dX8_tear_4 : decode cX8_tear 4 = .ok (.ifCond .ne 5, 3) := by decide +kernel
theorem dX8_tear_7 : decode cX8_tear 7 = .ok (.iconst (-1), 1) := by decide +kernel
theorem dX8_tear_8 : decode cX8_tear 8 = .ok (.ireturn, 1) := by decide +kernel
theorem dX8_tear_9 : decode cX8_tear 9 = .ok (.aload_n 0, 1) := by decide +kernel
theorem dX8_tear_10 : decode cX8_tear 10 = .ok (.getfield 26, 3) := by decide +kernel
theorem dX8_tear_13 : decode cX8_tear 13 = .ok (.iload_n 1, 1) := by decide +kernel
theorem dX8_tear_14 : decode cX8_tear 14 = .ok (.invokevirtual 135, 3) := by decide +kernel
theorem dX8_tear_17 : decode cX8_tear 17 = .ok (.ifCond .eq 12, 3) := by decide +kernel
theorem dX8_tear_20 : decode cX8_tear 20 = .ok (.aload_n 0, 1) := by decide +kernel
theorem dX8_tear_21 : decode cX8_tear 21 = .ok (.getfield 12, 3) := by decide +kernel
theorem dX8_tear_24 : decode cX8_tear 24 = .ok (.iconst 1, 1) := by decide +kernel
theorem dX8_tear_25 : decode cX8_tear 25 = .ok (.invokevirtual 94, 3) := by decide +kernel
theorem dX8_tear_28 : decode cX8_tear 28 = .ok (.ireturn, 1) := by decide +kernel
theorem dX8_tear_29 : decode cX8_tear 29 = .ok (.aload_n 0, 1) := by decide +kernel
theorem dX8_tear_30 : decode cX8_tear 30 = .ok (.getfield 26, 3) := by decide +kernel
theorem dX8_tear_33 : decode cX8_tear 33 = .ok (.getfield 138, 3) := by decide +kernel
theorem dX8_tear_36 : decode cX8_tear 36 = .ok (.iload_n 1, 1) := by decide +kernel
theorem dX8_tear_37 : decode cX8_tear 37 = .ok (.iconst (-1), 1) := by decide +kernel
theorem dX8_tear_38 : decode cX8_tear 38 = .ok (.iastore, 1) := by decide +kernel
theorem dX8_tear_39 : decode cX8_tear 39 = .ok (.iconst 1, 1) := by decide +kernel
theorem dX8_tear_40 : decode cX8_tear 40 = .ok (.ireturn, 1) := by decide +kernel
theorem dX8_copy_0 : decode cX8_copy 0 = .ok (.iload_n 1, 1) := by decide +kernel
theorem dX8_copy_1 : decode cX8_copy 1 = .ok (.invokestatic 128, 3) := by decide +kernel
theorem dX8_copy_4 : decode cX8_copy 4 = .ok (.ifCond .eq 10, 3) := by decide +kernel
theorem dX8_copy_7 : decode cX8_copy 7 = .ok (.iload_n 3, 1) := by decide +kernel
theorem dX8_copy_8 : decode cX8_copy 8 = .ok (.invokestatic 128, 3) := by decide +kernel
theorem dX8_copy_11 : decode cX8_copy 11 = .ok (.ifCond .ne 5, 3) := by decide +kernel
theorem dX8_copy_14 : decode cX8_copy 14 = .ok (.iconst (-1), 1) := by decide +kernel
theorem dX8_copy_15 : decode cX8_copy 15 = .ok (.ireturn, 1) := by decide +kernel
theorem dX8_copy_16 : decode cX8_copy 16 = .ok (.aload_n 0, 1) := by decide +kernel
theorem dX8_copy_17 : decode cX8_copy 17 = .ok (.getfield 26, 3) := by decide +kernel
theorem dX8_copy_20 : decode cX8_copy 20 = .ok (.iload_n 1, 1) := by decide +kernel
theorem dX8_copy_21 : decode cX8_copy 21 = .ok (.invokevirtual 135, 3) := by decide +kernel
theorem dX8_copy_24 : decode cX8_copy 24 = .ok (.ifCond .ne 14, 3) := by decide +kernel
theorem dX8_copy_27 : decode cX8_copy 27 = .ok (.aload_n 0, 1) := by decide +kernel
theorem dX8_copy_28 : decode cX8_copy 28 = .ok (.getfield 26, 3) := by decide +kernel
theorem dX8_copy_31 : decode cX8_copy 31 = .ok (.iload_n 3, 1) := by decide +kernel
theorem dX8_copy_32 : decode cX8_copy 32 = .ok (.invokevirtual 135, 3) := by decide +kernel
theorem dX8_copy_35 : decode cX8_copy 35 = .ok (.ifCond .eq 12, 3) := by decide +kernel
theorem dX8_copy_38 : decode cX8_copy 38 = .ok (.aload_n 0, 1) := by decide +kernel
theorem dX8_copy_39 : decode cX8_copy 39 = .ok (.getfield 12, 3) := by decide +kernel
theorem dX8_copy_42 : decode cX8_copy 42 = .ok (.iconst 1, 1) := by decide +kernel
theorem dX8_copy_43 : decode cX8_copy 43 = .ok (.invokevirtual 94, 3) := by decide +kernel
theorem dX8_copy_46 : decode cX8_copy 46 = .ok (.ireturn, 1) := by decide +kernel
theorem dX8_copy_47 : decode cX8_copy 47 = .ok (.aload_n 0, 1) := by decide +kernel
theorem dX8_copy_48 : decode cX8_copy 48 = .ok (.getfield 26, 3) := by decide +kernel
theorem dX8_copy_51 : decode cX8_copy 51 = .ok (.iload_n 1, 1) := by decide +kernel
theorem dX8_copy_52 : decode cX8_copy 52 = .ok (.iload_n 2, 1) := by decide +kernel
theorem dX8_copy_53 : decode cX8_copy 53 = .ok (.iload 5, 2) := by decide +kernel
theorem dX8_copy_55 : decode cX8_copy 55 = .ok (.invokevirtual 145, 3) := by decide +kernel
theorem dX8_copy_58 : decode cX8_copy 58 = .ok (.ifCond .eq 18, 3) := by decide +kernel
theorem dX8_copy_61 : decode cX8_copy 61 = .ok (.aload_n 0, 1) := by decide +kernel
theorem dX8_copy_62 : decode cX8_copy 62 = .ok (.getfield 26, 3) := by decide +kernel
theorem dX8_copy_65 : decode cX8_copy 65 = .ok (.iload_n 3, 1) := by decide +kernel
theorem dX8_copy_66 : decode cX8_copy 66 = .ok (.iload 4, 2) := by decide +kernel
theorem dX8_copy_68 : decode cX8_copy 68 = .ok (.iload 5, 2) := by decide +kernel
theorem dX8_copy_70 : decode cX8_copy 70 = .ok (.invokevirtual 145, 3) := by decide +kernel
theorem dX8_copy_73 : decode cX8_copy 73 = .ok (.ifCond .ne 12, 3) := by decide +kernel
theorem dX8_copy_76 : decode cX8_copy 76 = .ok (.aload_n 0, 1) := by decide +kernel
theorem dX8_copy_77 : decode cX8_copy 77 = .ok (.getfield 12, 3) := by decide +kernel
theorem dX8_copy_80 : decode cX8_copy 80 = .ok (.iconst 2, 1) := by decide +kernel
theorem dX8_copy_81 : decode cX8_copy 81 = .ok (.invokevirtual 94, 3) := by decide +kernel
theorem dX8_copy_84 : decode cX8_copy 84 = .ok (.ireturn, 1) := by decide +kernel
theorem dX8_copy_85 : decode cX8_copy 85 = .ok (.aload_n 0, 1) := by decide +kernel
theorem dX8_copy_86 : decode cX8_copy 86 = .ok (.getfield 26, 3) := by decide +kernel
theorem dX8_copy_89 : decode cX8_copy 89 = .ok (.getfield 149, 3) := by decide +kernel
theorem dX8_copy_92 : decode cX8_copy 92 = .ok (.iload_n 1, 1) := by decide +kernel
theorem dX8_copy_93 : decode cX8_copy 93 = .ok (.aaload, 1) := by decide +kernel
theorem dX8_copy_94 : decode cX8_copy 94 = .ok (.iload_n 2, 1) := by decide +kernel
theorem dX8_copy_95 : decode cX8_copy 95 = .ok (.aload_n 0, 1) := by decide +kernel
theorem dX8_copy_96 : decode cX8_copy 96 = .ok (.getfield 26, 3) := by decide +kernel
theorem dX8_copy_99 : decode cX8_copy 99 = .ok (.getfield 149, 3) := by decide +kernel
theorem dX8_copy_102 : decode cX8_copy 102 = .ok (.iload_n 3, 1) := by decide +kernel
theorem dX8_copy_103 : decode cX8_copy 103 = .ok (.aaload, 1) := by decide +kernel
theorem dX8_copy_104 : decode cX8_copy 104 = .ok (.iload 4, 2) := by decide +kernel
theorem dX8_copy_106 : decode cX8_copy 106 = .ok (.iload 5, 2) := by decide +kernel
theorem dX8_copy_108 : decode cX8_copy 108 = .ok (.invokestatic 153, 3) := by decide +kernel
theorem dX8_copy_111 : decode cX8_copy 111 = .ok (.iconst 1, 1) := by decide +kernel
theorem dX8_copy_112 : decode cX8_copy 112 = .ok (.ireturn, 1) := by decide +kernel
theorem dX8_prices_0 : decode cX8_prices 0 = .ok (.iload_n 1, 1) := by decide +kernel
theorem dX8_prices_1 : decode cX8_prices 1 = .ok (.bipush (-9), 2) := by decide +kernel
theorem dX8_prices_3 : decode cX8_prices 3 = .ok (.if_icmp .eq 12, 3) := by decide +kernel
theorem dX8_prices_6 : decode cX8_prices 6 = .ok (.iload_n 1, 1) := by decide +kernel
theorem dX8_prices_7 : decode cX8_prices 7 = .ok (.invokestatic 128, 3) := by decide +kernel
theorem dX8_prices_10 : decode cX8_prices 10 = .ok (.ifCond .ne 5, 3) := by decide +kernel
theorem dX8_prices_13 : decode cX8_prices 13 = .ok (.iconst (-1), 1) := by decide +kernel
theorem dX8_prices_14 : decode cX8_prices 14 = .ok (.ireturn, 1) := by decide +kernel
theorem dX8_prices_15 : decode cX8_prices 15 = .ok (.iload_n 1, 1) := by decide +kernel
theorem dX8_prices_16 : decode cX8_prices 16 = .ok (.bipush (-9), 2) := by decide +kernel
theorem dX8_prices_18 : decode cX8_prices 18 = .ok (.if_icmp .eq 23, 3) := by decide +kernel
theorem dX8_prices_21 : decode cX8_prices 21 = .ok (.aload_n 0, 1) := by decide +kernel
theorem dX8_prices_22 : decode cX8_prices 22 = .ok (.getfield 26, 3) := by decide +kernel
theorem dX8_prices_25 : decode cX8_prices 25 = .ok (.iload_n 1, 1) := by decide +kernel
theorem dX8_prices_26 : decode cX8_prices 26 = .ok (.invokevirtual 135, 3) := by decide +kernel
theorem dX8_prices_29 : decode cX8_prices 29 = .ok (.ifCond .eq 12, 3) := by decide +kernel
theorem dX8_prices_32 : decode cX8_prices 32 = .ok (.aload_n 0, 1) := by decide +kernel
theorem dX8_prices_33 : decode cX8_prices 33 = .ok (.getfield 12, 3) := by decide +kernel
theorem dX8_prices_36 : decode cX8_prices 36 = .ok (.iconst 1, 1) := by decide +kernel
theorem dX8_prices_37 : decode cX8_prices 37 = .ok (.invokevirtual 94, 3) := by decide +kernel
theorem dX8_prices_40 : decode cX8_prices 40 = .ok (.ireturn, 1) := by decide +kernel
theorem dX8_prices_41 : decode cX8_prices 41 = .ok (.aload_n 0, 1) := by decide +kernel
theorem dX8_prices_42 : decode cX8_prices 42 = .ok (.getfield 26, 3) := by decide +kernel
theorem dX8_prices_45 : decode cX8_prices 45 = .ok (.getfield 159, 3) := by decide +kernel
theorem dX8_prices_48 : decode cX8_prices 48 = .ok (.istore_n 2, 1) := by decide +kernel
theorem dX8_prices_49 : decode cX8_prices 49 = .ok (.aload_n 0, 1) := by decide +kernel
theorem dX8_prices_50 : decode cX8_prices 50 = .ok (.getfield 26, 3) := by decide +kernel
theorem dX8_prices_53 : decode cX8_prices 53 = .ok (.iload_n 1, 1) := by decide +kernel
theorem dX8_prices_54 : decode cX8_prices 54 = .ok (.putfield 159, 3) := by decide +kernel
theorem dX8_prices_57 : decode cX8_prices 57 = .ok (.iload_n 2, 1) := by decide +kernel
theorem dX8_prices_58 : decode cX8_prices 58 = .ok (.ireturn, 1) := by decide +kernel
theorem dX8_price_0 : decode cX8_price 0 = .ok (.iload_n 1, 1) := by decide +kernel
theorem dX8_price_1 : decode cX8_price 1 = .ok (.ifCond .lt 9, 3) := by decide +kernel
theorem dX8_price_4 : decode cX8_price 4 = .ok (.iload_n 1, 1) := by decide +kernel
theorem dX8_price_5 : decode cX8_price 5 = .ok (.bipush 15, 2) := by decide +kernel
theorem dX8_price_7 : decode cX8_price 7 = .ok (.if_icmp .le 5, 3) := by decide +kernel
theorem dX8_price_10 : decode cX8_price 10 = .ok (.iconst (-1), 1) := by decide +kernel
theorem dX8_price_11 : decode cX8_price 11 = .ok (.ireturn, 1) := by decide +kernel
theorem dX8_price_12 : decode cX8_price 12 = .ok (.aload_n 0, 1) := by decide +kernel
theorem dX8_price_13 : decode cX8_price 13 = .ok (.getfield 26, 3) := by decide +kernel
theorem dX8_price_16 : decode cX8_price 16 = .ok (.iload_n 1, 1) := by decide +kernel
theorem dX8_price_17 : decode cX8_price 17 = .ok (.invokevirtual 162, 3) := by decide +kernel
theorem dX8_price_20 : decode cX8_price 20 = .ok (.ireturn, 1) := by decide +kernel
theorem dX8_meet_0 : decode cX8_meet 0 = .ok (.iload_n 1, 1) := by decide +kernel
theorem dX8_meet_1 : decode cX8_meet 1 = .ok (.iconst 1, 1) := by decide +kernel
theorem dX8_meet_2 : decode cX8_meet 2 = .ok (.if_icmp .lt 9, 3) := by decide +kernel
theorem dX8_meet_5 : decode cX8_meet 5 = .ok (.iload_n 1, 1) := by decide +kernel
theorem dX8_meet_6 : decode cX8_meet 6 = .ok (.bipush 15, 2) := by decide +kernel
theorem dX8_meet_8 : decode cX8_meet 8 = .ok (.if_icmp .le 5, 3) := by decide +kernel
theorem dX8_meet_11 : decode cX8_meet 11 = .ok (.iconst (-1), 1) := by decide +kernel
theorem dX8_meet_12 : decode cX8_meet 12 = .ok (.ireturn, 1) := by decide +kernel
theorem dX8_meet_13 : decode cX8_meet 13 = .ok (.aload_n 0, 1) := by decide +kernel
theorem dX8_meet_14 : decode cX8_meet 14 = .ok (.getfield 33, 3) := by decide +kernel
theorem dX8_meet_17 : decode cX8_meet 17 = .ok (.getfield 76, 3) := by decide +kernel
theorem dX8_meet_20 : decode cX8_meet 20 = .ok (.ifCond .eq 6, 3) := by decide +kernel
theorem dX8_meet_23 : decode cX8_meet 23 = .ok (.bipush (-4), 2) := by decide +kernel
theorem dX8_meet_25 : decode cX8_meet 25 = .ok (.ireturn, 1) := by decide +kernel
theorem dX8_meet_26 : decode cX8_meet 26 = .ok (.aload_n 0, 1) := by decide +kernel
theorem dX8_meet_27 : decode cX8_meet 27 = .ok (.getfield 33, 3) := by decide +kernel
theorem dX8_meet_30 : decode cX8_meet 30 = .ok (.iload_n 1, 1) := by decide +kernel
theorem dX8_meet_31 : decode cX8_meet 31 = .ok (.invokevirtual 165, 3) := by decide +kernel
theorem dX8_meet_34 : decode cX8_meet 34 = .ok (.aload_n 0, 1) := by decide +kernel
theorem dX8_meet_35 : decode cX8_meet 35 = .ok (.getfield 19, 3) := by decide +kernel
theorem dX8_meet_38 : decode cX8_meet 38 = .ok (.invokevirtual 169, 3) := by decide +kernel
theorem dX8_meet_41 : decode cX8_meet 41 = .ok (.aload_n 0, 1) := by decide +kernel
theorem dX8_meet_42 : decode cX8_meet 42 = .ok (.getfield 61, 3) := by decide +kernel
theorem dX8_meet_45 : decode cX8_meet 45 = .ok (.invokevirtual 172, 3) := by decide +kernel
theorem dX8_meet_48 : decode cX8_meet 48 = .ok (.aload_n 0, 1) := by decide +kernel
theorem dX8_meet_49 : decode cX8_meet 49 = .ok (.getfield 54, 3) := by decide +kernel
theorem dX8_meet_52 : decode cX8_meet 52 = .ok (.iconst 0, 1) := by decide +kernel
theorem dX8_meet_53 : decode cX8_meet 53 = .ok (.putfield 80, 3) := by decide +kernel
theorem dX8_meet_56 : decode cX8_meet 56 = .ok (.aload_n 0, 1) := by decide +kernel
theorem dX8_meet_57 : decode cX8_meet 57 = .ok (.getfield 19, 3) := by decide +kernel
theorem dX8_meet_60 : decode cX8_meet 60 = .ok (.getfield 112, 3) := by decide +kernel
theorem dX8_meet_63 : decode cX8_meet 63 = .ok (.ireturn, 1) := by decide +kernel
theorem dX8_absent_0 : decode cX8_absent 0 = .ok (.aload_n 0, 1) := by decide +kernel
