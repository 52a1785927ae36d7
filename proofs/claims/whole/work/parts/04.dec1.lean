theorem dX8_absent_1 : decode cX8_absent 1 = .ok (.iload_n 1, 1) := by decide +kernel
theorem dX8_absent_2 : decode cX8_absent 2 = .ok (.invokevirtual 101, 3) := by decide +kernel
theorem dX8_absent_5 : decode cX8_absent 5 = .ok (.istore_n 3, 1) := by decide +kernel
theorem dX8_absent_6 : decode cX8_absent 6 = .ok (.iload_n 3, 1) := by decide +kernel
theorem dX8_absent_7 : decode cX8_absent 7 = .ok (.ifCond .eq 5, 3) := by decide +kernel
theorem dX8_absent_10 : decode cX8_absent 10 = .ok (.iload_n 3, 1) := by decide +kernel
theorem dX8_absent_11 : decode cX8_absent 11 = .ok (.ireturn, 1) := by decide +kernel
theorem dX8_absent_12 : decode cX8_absent 12 = .ok (.aload_n 0, 1) := by decide +kernel
theorem dX8_absent_13 : decode cX8_absent 13 = .ok (.getfield 19, 3) := by decide +kernel
theorem dX8_absent_16 : decode cX8_absent 16 = .ok (.getfield 175, 3) := by decide +kernel
theorem dX8_absent_19 : decode cX8_absent 19 = .ok (.iload_n 1, 1) := by decide +kernel
theorem dX8_absent_20 : decode cX8_absent 20 = .ok (.baload, 1) := by decide +kernel
theorem dX8_absent_21 : decode cX8_absent 21 = .ok (.istore 4, 2) := by decide +kernel
theorem dX8_absent_23 : decode cX8_absent 23 = .ok (.aload_n 0, 1) := by decide +kernel
theorem dX8_absent_24 : decode cX8_absent 24 = .ok (.getfield 19, 3) := by decide +kernel
theorem dX8_absent_27 : decode cX8_absent 27 = .ok (.getfield 175, 3) := by decide +kernel
theorem dX8_absent_30 : decode cX8_absent 30 = .ok (.iload_n 1, 1) := by decide +kernel
theorem dX8_absent_31 : decode cX8_absent 31 = .ok (.iload_n 2, 1) := by decide +kernel
theorem dX8_absent_32 : decode cX8_absent 32 = .ok (.bastore, 1) := by decide +kernel
theorem dX8_absent_33 : decode cX8_absent 33 = .ok (.iload 4, 2) := by decide +kernel
theorem dX8_absent_35 : decode cX8_absent 35 = .ok (.ifCond .eq 7, 3) := by decide +kernel
theorem dX8_absent_38 : decode cX8_absent 38 = .ok (.iconst 1, 1) := by decide +kernel
theorem dX8_absent_39 : decode cX8_absent 39 = .ok (.goto 4, 3) := by decide +kernel
theorem dX8_absent_42 : decode cX8_absent 42 = .ok (.iconst 0, 1) := by decide +kernel
theorem dX8_absent_43 : decode cX8_absent 43 = .ok (.ireturn, 1) := by decide +kernel
theorem dX8_barred_0 : decode cX8_barred 0 = .ok (.aload_n 0, 1) := by decide +kernel
theorem dX8_barred_1 : decode cX8_barred 1 = .ok (.getfield 19, 3) := by decide +kernel
theorem dX8_barred_4 : decode cX8_barred 4 = .ok (.iload_n 1, 1) := by decide +kernel
theorem dX8_barred_5 : decode cX8_barred 5 = .ok (.invokevirtual 87, 3) := by decide +kernel
theorem dX8_barred_8 : decode cX8_barred 8 = .ok (.ifCond .eq 19, 3) := by decide +kernel
theorem dX8_barred_11 : decode cX8_barred 11 = .ok (.aload_n 0, 1) := by decide +kernel
theorem dX8_barred_12 : decode cX8_barred 12 = .ok (.getfield 19, 3) := by decide +kernel
theorem dX8_barred_15 : decode cX8_barred 15 = .ok (.iload_n 2, 1) := by decide +kernel
theorem dX8_barred_16 : decode cX8_barred 16 = .ok (.invokevirtual 87, 3) := by decide +kernel
theorem dX8_barred_19 : decode cX8_barred 19 = .ok (.ifCond .eq 8, 3) := by decide +kernel
theorem dX8_barred_22 : decode cX8_barred 22 = .ok (.iload_n 1, 1) := by decide +kernel
theorem dX8_barred_23 : decode cX8_barred 23 = .ok (.iload_n 2, 1) := by decide +kernel
theorem dX8_barred_24 : decode cX8_barred 24 = .ok (.if_icmp .ne 5, 3) := by decide +kernel
theorem dX8_barred_27 : decode cX8_barred 27 = .ok (.iconst (-1), 1) := by decide +kernel
theorem dX8_barred_28 : decode cX8_barred 28 = .ok (.ireturn, 1) := by decide +kernel
theorem dX8_barred_29 : decode cX8_barred 29 = .ok (.aload_n 0, 1) := by decide +kernel
theorem dX8_barred_30 : decode cX8_barred 30 = .ok (.getfield 19, 3) := by decide +kernel
theorem dX8_barred_33 : decode cX8_barred 33 = .ok (.getfield 90, 3) := by decide +kernel
theorem dX8_barred_36 : decode cX8_barred 36 = .ok (.iload_n 1, 1) := by decide +kernel
theorem dX8_barred_37 : decode cX8_barred 37 = .ok (.baload, 1) := by decide +kernel
theorem dX8_barred_38 : decode cX8_barred 38 = .ok (.ifCond .ne 15, 3) := by decide +kernel
theorem dX8_barred_41 : decode cX8_barred 41 = .ok (.aload_n 0, 1) := by decide +kernel
theorem dX8_barred_42 : decode cX8_barred 42 = .ok (.getfield 19, 3) := by decide +kernel
theorem dX8_barred_45 : decode cX8_barred 45 = .ok (.getfield 90, 3) := by decide +kernel
theorem dX8_barred_48 : decode cX8_barred 48 = .ok (.iload_n 2, 1) := by decide +kernel
theorem dX8_barred_49 : decode cX8_barred 49 = .ok (.baload, 1) := by decide +kernel
theorem dX8_barred_50 : decode cX8_barred 50 = .ok (.ifCond .eq 12, 3) := by decide +kernel
theorem dX8_barred_53 : decode cX8_barred 53 = .ok (.aload_n 0, 1) := by decide +kernel
theorem dX8_barred_54 : decode cX8_barred 54 = .ok (.getfield 12, 3) := by decide +kernel
theorem dX8_barred_57 : decode cX8_barred 57 = .ok (.iconst 1, 1) := by decide +kernel
theorem dX8_barred_58 : decode cX8_barred 58 = .ok (.invokevirtual 94, 3) := by decide +kernel
theorem dX8_barred_61 : decode cX8_barred 61 = .ok (.ireturn, 1) := by decide +kernel
theorem dX8_barred_62 : decode cX8_barred 62 = .ok (.aload_n 0, 1) := by decide +kernel
theorem dX8_barred_63 : decode cX8_barred 63 = .ok (.iload_n 1, 1) := by decide +kernel
theorem dX8_barred_64 : decode cX8_barred 64 = .ok (.iload_n 2, 1) := by decide +kernel
theorem dX8_barred_65 : decode cX8_barred 65 = .ok (.invokevirtual 178, 3) := by decide +kernel
theorem dX8_barred_68 : decode cX8_barred 68 = .ok (.ireturn, 1) := by decide +kernel
theorem dX8_draw_0 : decode cX8_draw 0 = .ok (.aload_n 0, 1) := by decide +kernel
theorem dX8_draw_1 : decode cX8_draw 1 = .ok (.getfield 33, 3) := by decide +kernel
theorem dX8_draw_4 : decode cX8_draw 4 = .ok (.getfield 76, 3) := by decide +kernel
theorem dX8_draw_7 : decode cX8_draw 7 = .ok (.ifCond .eq 30, 3) := by decide +kernel
theorem dX8_draw_10 : decode cX8_draw 10 = .ok (.aload_n 0, 1) := by decide +kernel
theorem dX8_draw_11 : decode cX8_draw 11 = .ok (.getfield 33, 3) := by decide +kernel
theorem dX8_draw_14 : decode cX8_draw 14 = .ok (.getfield 181, 3) := by decide +kernel
theorem dX8_draw_17 : decode cX8_draw 17 = .ok (.ifCond .gt 20, 3) := by decide +kernel
theorem dX8_draw_20 : decode cX8_draw 20 = .ok (.aload_n 0, 1) := by decide +kernel
theorem dX8_draw_21 : decode cX8_draw 21 = .ok (.getfield 33, 3) := by decide +kernel
theorem dX8_draw_24 : decode cX8_draw 24 = .ok (.getfield 184, 3) := by decide +kernel
theorem dX8_draw_27 : decode cX8_draw 27 = .ok (.aload_n 0, 1) := by decide +kernel
theorem dX8_draw_28 : decode cX8_draw 28 = .ok (.getfield 33, 3) := by decide +kernel
theorem dX8_draw_31 : decode cX8_draw 31 = .ok (.getfield 187, 3) := by decide +kernel
theorem dX8_draw_34 : decode cX8_draw 34 = .ok (.if_icmp .lt 6, 3) := by decide +kernel
theorem dX8_draw_37 : decode cX8_draw 37 = .ok (.bipush (-4), 2) := by decide +kernel
theorem dX8_draw_39 : decode cX8_draw 39 = .ok (.ireturn, 1) := by decide +kernel
theorem dX8_draw_40 : decode cX8_draw 40 = .ok (.aload_n 0, 1) := by decide +kernel
theorem dX8_draw_41 : decode cX8_draw 41 = .ok (.invokevirtual 190, 3) := by decide +kernel
theorem dX8_draw_44 : decode cX8_draw 44 = .ok (.aload_n 0, 1) := by decide +kernel
theorem dX8_draw_45 : decode cX8_draw 45 = .ok (.invokevirtual 193, 3) := by decide +kernel
theorem dX8_draw_48 : decode cX8_draw 48 = .ok (.aload_n 0, 1) := by decide +kernel
theorem dX8_draw_49 : decode cX8_draw 49 = .ok (.getfield 33, 3) := by decide +kernel
theorem dX8_draw_52 : decode cX8_draw 52 = .ok (.aload_n 0, 1) := by decide +kernel
theorem dX8_draw_53 : decode cX8_draw 53 = .ok (.getfield 40, 3) := by decide +kernel
theorem dX8_draw_56 : decode cX8_draw 56 = .ok (.invokevirtual 196, 3) := by decide +kernel
theorem dX8_draw_59 : decode cX8_draw 59 = .ok (.putfield 200, 3) := by decide +kernel
theorem dX8_draw_62 : decode cX8_draw 62 = .ok (.aload_n 0, 1) := by decide +kernel
theorem dX8_draw_63 : decode cX8_draw 63 = .ok (.invokevirtual 203, 3) := by decide +kernel
theorem dX8_draw_66 : decode cX8_draw 66 = .ok (.ireturn, 1) := by decide +kernel
theorem dX8_cost_0 : decode cX8_cost 0 = .ok (.aload_n 0, 1) := by decide +kernel
theorem dX8_cost_1 : decode cX8_cost 1 = .ok (.getfield 33, 3) := by decide +kernel
theorem dX8_cost_4 : decode cX8_cost 4 = .ok (.getfield 200, 3) := by decide +kernel
theorem dX8_cost_7 : decode cX8_cost 7 = .ok (.ireturn, 1) := by decide +kernel
theorem dX8_result_0 : decode cX8_result 0 = .ok (.aload_n 0, 1) := by decide +kernel
theorem dX8_result_1 : decode cX8_result 1 = .ok (.getfield 33, 3) := by decide +kernel
theorem dX8_result_4 : decode cX8_result 4 = .ok (.iload_n 1, 1) := by decide +kernel
theorem dX8_result_5 : decode cX8_result 5 = .ok (.invokevirtual 206, 3) := by decide +kernel
theorem dX8_result_8 : decode cX8_result 8 = .ok (.ifCond .ne 5, 3) := by decide +kernel
theorem dX8_result_11 : decode cX8_result 11 = .ok (.iconst (-1), 1) := by decide +kernel
theorem dX8_result_12 : decode cX8_result 12 = .ok (.ireturn, 1) := by decide +kernel
theorem dX8_result_13 : decode cX8_result 13 = .ok (.aload_n 0, 1) := by decide +kernel
theorem dX8_result_14 : decode cX8_result 14 = .ok (.getfield 33, 3) := by decide +kernel
theorem dX8_result_17 : decode cX8_result 17 = .ok (.getfield 207, 3) := by decide +kernel
theorem dX8_result_20 : decode cX8_result 20 = .ok (.iload_n 1, 1) := by decide +kernel
theorem dX8_result_21 : decode cX8_result 21 = .ok (.iaload, 1) := by decide +kernel
theorem dX8_result_22 : decode cX8_result 22 = .ok (.bipush (-9), 2) := by decide +kernel
theorem dX8_result_24 : decode cX8_result 24 = .ok (.if_icmp .eq 6, 3) := by decide +kernel
theorem dX8_result_27 : decode cX8_result 27 = .ok (.bipush (-4), 2) := by decide +kernel
theorem dX8_result_29 : decode cX8_result 29 = .ok (.ireturn, 1) := by decide +kernel
theorem dX8_result_30 : decode cX8_result 30 = .ok (.iload_n 2, 1) := by decide +kernel
theorem dX8_result_31 : decode cX8_result 31 = .ok (.ifCond .eq 15, 3) := by decide +kernel
theorem dX8_result_34 : decode cX8_result 34 = .ok (.aload_n 0, 1) := by decide +kernel
theorem dX8_result_35 : decode cX8_result 35 = .ok (.getfield 33, 3) := by decide +kernel
theorem dX8_result_38 : decode cX8_result 38 = .ok (.getfield 210, 3) := by decide +kernel
theorem dX8_result_41 : decode cX8_result 41 = .ok (.iload_n 1, 1) := by decide +kernel
theorem dX8_result_42 : decode cX8_result 42 = .ok (.iaload, 1) := by decide +kernel
theorem dX8_result_43 : decode cX8_result 43 = .ok (.goto 12, 3) := by decide +kernel
theorem dX8_result_46 : decode cX8_result 46 = .ok (.aload_n 0, 1) := by decide +kernel
theorem dX8_result_47 : decode cX8_result 47 = .ok (.getfield 33, 3) := by decide +kernel
theorem dX8_result_50 : decode cX8_result 50 = .ok (.getfield 213, 3) := by decide +kernel
theorem dX8_result_53 : decode cX8_result 53 = .ok (.iload_n 1, 1) := by decide +kernel
theorem dX8_result_54 : decode cX8_result 54 = .ok (.iaload, 1) := by decide +kernel
theorem dX8_result_55 : decode cX8_result 55 = .ok (.istore_n 3, 1) := by decide +kernel
theorem dX8_result_56 : decode cX8_result 56 = .ok (.aload_n 0, 1) := by decide +kernel
theorem dX8_result_57 : decode cX8_result 57 = .ok (.getfield 33, 3) := by decide +kernel
theorem dX8_result_60 : decode cX8_result 60 = .ok (.getfield 207, 3) := by decide +kernel
theorem dX8_result_63 : decode cX8_result 63 = .ok (.iload_n 1, 1) := by decide +kernel
theorem dX8_result_64 : decode cX8_result 64 = .ok (.iload_n 3, 1) := by decide +kernel
theorem dX8_result_65 : decode cX8_result 65 = .ok (.iastore, 1) := by decide +kernel
theorem dX8_result_66 : decode cX8_result 66 = .ok (.aload_n 0, 1) := by decide +kernel
theorem dX8_result_67 : decode cX8_result 67 = .ok (.getfield 33, 3) := by decide +kernel
theorem dX8_result_70 : decode cX8_result 70 = .ok (.dup, 1) := by decide +kernel
theorem dX8_result_71 : decode cX8_result 71 = .ok (.getfield 181, 3) := by decide +kernel
theorem dX8_result_74 : decode cX8_result 74 = .ok (.iconst 1, 1) := by decide +kernel
theorem dX8_result_75 : decode cX8_result 75 = .ok (.isub, 1) := by decide +kernel
theorem dX8_result_76 : decode cX8_result 76 = .ok (.putfield 181, 3) := by decide +kernel
theorem dX8_result_79 : decode cX8_result 79 = .ok (.aload_n 0, 1) := by decide +kernel
theorem dX8_result_80 : decode cX8_result 80 = .ok (.getfield 19, 3) := by decide +kernel
theorem dX8_result_83 : decode cX8_result 83 = .ok (.getfield 125, 3) := by decide +kernel
theorem dX8_result_86 : decode cX8_result 86 = .ok (.iload_n 3, 1) := by decide +kernel
theorem dX8_result_87 : decode cX8_result 87 = .ok (.dup2, 1) := by decide +kernel
theorem dX8_result_88 : decode cX8_result 88 = .ok (.iaload, 1) := by decide +kernel
theorem dX8_result_89 : decode cX8_result 89 = .ok (.iconst 1, 1) := by decide +kernel
theorem dX8_result_90 : decode cX8_result 90 = .ok (.iadd, 1) := by decide +kernel
theorem dX8_result_91 : decode cX8_result 91 = .ok (.iastore, 1) := by decide +kernel
theorem dX8_result_92 : decode cX8_result 92 = .ok (.aload_n 0, 1) := by decide +kernel
theorem dX8_result_93 : decode cX8_result 93 = .ok (.getfield 19, 3) := by decide +kernel
theorem dX8_result_96 : decode cX8_result 96 = .ok (.getfield 216, 3) := by decide +kernel
theorem dX8_result_99 : decode cX8_result 99 = .ok (.aload_n 0, 1) := by decide +kernel
theorem dX8_result_100 : decode cX8_result 100 = .ok (.getfield 33, 3) := by decide +kernel
theorem dX8_result_103 : decode cX8_result 103 = .ok (.iload_n 1, 1) := by decide +kernel
theorem dX8_result_104 : decode cX8_result 104 = .ok (.invokevirtual 219, 3) := by decide +kernel
theorem dX8_result_107 : decode cX8_result 107 = .ok (.dup2, 1) := by decide +kernel
theorem dX8_result_108 : decode cX8_result 108 = .ok (.iaload, 1) := by decide +kernel
theorem dX8_result_109 : decode cX8_result 109 = .ok (.iconst 1, 1) := by decide +kernel
theorem dX8_result_110 : decode cX8_result 110 = .ok (.iadd, 1) := by decide +kernel
theorem dX8_result_111 : decode cX8_result 111 = .ok (.iastore, 1) := by decide +kernel
theorem dX8_result_112 : decode cX8_result 112 = .ok (.iconst 1, 1) := by decide +kernel
theorem dX8_result_113 : decode cX8_result 113 = .ok (.ireturn, 1) := by decide +kernel
theorem dX8_bout_0 : decode cX8_bout 0 = .ok (.aload_n 0, 1) := by decide +kernel
theorem dX8_bout_1 : decode cX8_bout 1 = .ok (.getfield 33, 3) := by decide +kernel
theorem dX8_bout_4 : decode cX8_bout 4 = .ok (.iload_n 1, 1) := by decide +kernel
theorem dX8_bout_5 : decode cX8_bout 5 = .ok (.invokevirtual 206, 3) := by decide +kernel
theorem dX8_bout_8 : decode cX8_bout 8 = .ok (.ifCond .eq 12, 3) := by decide +kernel
theorem dX8_bout_11 : decode cX8_bout 11 = .ok (.iload_n 2, 1) := by decide +kernel
theorem dX8_bout_12 : decode cX8_bout 12 = .ok (.ifCond .lt 8, 3) := by decide +kernel
theorem dX8_bout_15 : decode cX8_bout 15 = .ok (.iload_n 2, 1) := by decide +kernel
theorem dX8_bout_16 : decode cX8_bout 16 = .ok (.iconst 4, 1) := by decide +kernel
theorem dX8_bout_17 : decode cX8_bout 17 = .ok (.if_icmp .lt 5, 3) := by decide +kernel
theorem dX8_bout_20 : decode cX8_bout 20 = .ok (.iconst (-1), 1) := by decide +kernel
theorem dX8_bout_21 : decode cX8_bout 21 = .ok (.ireturn, 1) := by decide +kernel
theorem dX8_bout_22 : decode cX8_bout 22 = .ok (.aload_n 0, 1) := by decide +kernel
theorem dX8_bout_23 : decode cX8_bout 23 = .ok (.getfield 33, 3) := by decide +kernel
theorem dX8_bout_26 : decode cX8_bout 26 = .ok (.iload_n 1, 1) := by decide +kernel
theorem dX8_bout_27 : decode cX8_bout 27 = .ok (.iload_n 2, 1) := by decide +kernel
theorem dX8_bout_28 : decode cX8_bout 28 = .ok (.invokevirtual 222, 3) := by decide +kernel
theorem dX8_bout_31 : decode cX8_bout 31 = .ok (.ireturn, 1) := by decide +kernel
theorem dX8_sat_0 : decode cX8_sat 0 = .ok (.aload_n 0, 1) := by decide +kernel
theorem dX8_sat_1 : decode cX8_sat 1 = .ok (.getfield 33, 3) := by decide +kernel
theorem dX8_sat_4 : decode cX8_sat 4 = .ok (.getfield 223, 3) := by decide +kernel
theorem dX8_sat_7 : decode cX8_sat 7 = .ok (.ireturn, 1) := by decide +kernel
theorem dX8_line_0 : decode cX8_line 0 = .ok (.iload_n 1, 1) := by decide +kernel
theorem dX8_line_1 : decode cX8_line 1 = .ok (.iload_n 2, 1) := by decide +kernel
theorem dX8_line_2 : decode cX8_line 2 = .ok (.if_icmp .gt 15, 3) := by decide +kernel
theorem dX8_line_5 : decode cX8_line 5 = .ok (.iload_n 3, 1) := by decide +kernel
theorem dX8_line_6 : decode cX8_line 6 = .ok (.bipush (-15), 2) := by decide +kernel
theorem dX8_line_8 : decode cX8_line 8 = .ok (.if_icmp .lt 9, 3) := by decide +kernel
theorem dX8_line_11 : decode cX8_line 11 = .ok (.iload_n 3, 1) := by decide +kernel
theorem dX8_line_12 : decode cX8_line 12 = .ok (.bipush 15, 2) := by decide +kernel
theorem dX8_line_14 : decode cX8_line 14 = .ok (.if_icmp .le 5, 3) := by decide +kernel
theorem dX8_line_17 : decode cX8_line 17 = .ok (.iconst (-1), 1) := by decide +kernel
theorem dX8_line_18 : decode cX8_line 18 = .ok (.ireturn, 1) := by decide +kernel
theorem dX8_line_19 : decode cX8_line 19 = .ok (.aload_n 0, 1) := by decide +kernel
theorem dX8_line_20 : decode cX8_line 20 = .ok (.getfield 47, 3) := by decide +kernel
theorem dX8_line_23 : decode cX8_line 23 = .ok (.getfield 226, 3) := by decide +kernel
theorem dX8_line_26 : decode cX8_line 26 = .ok (.bipush 12, 2) := by decide +kernel
theorem dX8_line_28 : decode cX8_line 28 = .ok (.if_icmp .lt 6, 3) := by decide +kernel
theorem dX8_line_31 : decode cX8_line 31 = .ok (.bipush (-2), 2) := by decide +kernel
theorem dX8_line_33 : decode cX8_line 33 = .ok (.ireturn, 1) := by decide +kernel
theorem dX8_line_34 : decode cX8_line 34 = .ok (.aload_n 0, 1) := by decide +kernel
theorem dX8_line_35 : decode cX8_line 35 = .ok (.getfield 47, 3) := by decide +kernel
theorem dX8_line_38 : decode cX8_line 38 = .ok (.iload_n 1, 1) := by decide +kernel
theorem dX8_line_39 : decode cX8_line 39 = .ok (.iload_n 2, 1) := by decide +kernel
theorem dX8_line_40 : decode cX8_line 40 = .ok (.iload_n 3, 1) := by decide +kernel
theorem dX8_line_41 : decode cX8_line 41 = .ok (.invokevirtual 229, 3) := by decide +kernel
theorem dX8_line_44 : decode cX8_line 44 = .ok (.ireturn, 1) := by decide +kernel
theorem dX8_anew_0 : decode cX8_anew 0 = .ok (.aload_n 0, 1) := by decide +kernel
theorem dX8_anew_1 : decode cX8_anew 1 = .ok (.getfield 33, 3) := by decide +kernel
theorem dX8_anew_4 : decode cX8_anew 4 = .ok (.invokevirtual 230, 3) := by decide +kernel
theorem dX8_anew_7 : decode cX8_anew 7 = .ok (.ifCond .eq 13, 3) := by decide +kernel
theorem dX8_anew_10 : decode cX8_anew 10 = .ok (.aload_n 0, 1) := by decide +kernel
theorem dX8_anew_11 : decode cX8_anew 11 = .ok (.getfield 61, 3) := by decide +kernel
theorem dX8_anew_14 : decode cX8_anew 14 = .ok (.invokevirtual 234, 3) := by decide +kernel
theorem dX8_anew_17 : decode cX8_anew 17 = .ok (.ifCond .eq 6, 3) := by decide +kernel
theorem dX8_anew_20 : decode cX8_anew 20 = .ok (.bipush (-4), 2) := by decide +kernel
theorem dX8_anew_22 : decode cX8_anew 22 = .ok (.ireturn, 1) := by decide +kernel
theorem dX8_anew_23 : decode cX8_anew 23 = .ok (.aload_n 0, 1) := by decide +kernel
theorem dX8_anew_24 : decode cX8_anew 24 = .ok (.getfield 54, 3) := by decide +kernel
theorem dX8_anew_27 : decode cX8_anew 27 = .ok (.aload_n 0, 1) := by decide +kernel
theorem dX8_anew_28 : decode cX8_anew 28 = .ok (.getfield 19, 3) := by decide +kernel
theorem dX8_anew_31 : decode cX8_anew 31 = .ok (.aload_n 0, 1) := by decide +kernel
theorem dX8_anew_32 : decode cX8_anew 32 = .ok (.getfield 47, 3) := by decide +kernel
theorem dX8_anew_35 : decode cX8_anew 35 = .ok (.getfield 226, 3) := by decide +kernel
theorem dX8_anew_38 : decode cX8_anew 38 = .ok (.invokevirtual 237, 3) := by decide +kernel
theorem dX8_anew_41 : decode cX8_anew 41 = .ok (.iconst 0, 1) := by decide +kernel
theorem dX8_anew_42 : decode cX8_anew 42 = .ok (.istore_n 1, 1) := by decide +kernel
theorem dX8_anew_43 : decode cX8_anew 43 = .ok (.iload_n 1, 1) := by decide +kernel
theorem dX8_anew_44 : decode cX8_anew 44 = .ok (.aload_n 0, 1) := by decide +kernel
theorem dX8_anew_45 : decode cX8_anew 45 = .ok (.getfield 54, 3) := by decide +kernel
theorem dX8_anew_48 : decode cX8_anew 48 = .ok (.getfield 241, 3) := by decide +kernel
theorem dX8_anew_51 : decode cX8_anew 51 = .ok (.if_icmp .ge 22, 3) := by decide +kernel
theorem dX8_anew_54 : decode cX8_anew 54 = .ok (.aload_n 0, 1) := by decide +kernel
theorem dX8_anew_55 : decode cX8_anew 55 = .ok (.aload_n 0, 1) := by decide +kernel
theorem dX8_anew_56 : decode cX8_anew 56 = .ok (.getfield 54, 3) := by decide +kernel
theorem dX8_anew_59 : decode cX8_anew 59 = .ok (.getfield 242, 3) := by decide +kernel
theorem dX8_anew_62 : decode cX8_anew 62 = .ok (.iload_n 1, 1) := by decide +kernel
theorem dX8_anew_63 : decode cX8_anew 63 = .ok (.iaload, 1) := by decide +kernel
theorem dX8_anew_64 : decode cX8_anew 64 = .ok (.invokevirtual 245, 3) := by decide +kernel
theorem dX8_anew_67 : decode cX8_anew 67 = .ok (.iinc 1 1, 3) := by decide +kernel
theorem dX8_anew_70 : decode cX8_anew 70 = .ok (.goto (-27), 3) := by decide +kernel
theorem dX8_anew_73 : decode cX8_anew 73 = .ok (.aload_n 0, 1) := by decide +kernel
theorem dX8_anew_74 : decode cX8_anew 74 = .ok (.getfield 54, 3) := by decide +kernel
theorem dX8_anew_77 : decode cX8_anew 77 = .ok (.invokevirtual 248, 3) := by decide +kernel
theorem dX8_anew_80 : decode cX8_anew 80 = .ok (.iconst 0, 1) := by decide +kernel
theorem dX8_anew_81 : decode cX8_anew 81 = .ok (.istore_n 1, 1) := by decide +kernel
theorem dX8_anew_82 : decode cX8_anew 82 = .ok (.iload_n 1, 1) := by decide +kernel
theorem dX8_anew_83 : decode cX8_anew 83 = .ok (.aload_n 0, 1) := by decide +kernel
theorem dX8_anew_84 : decode cX8_anew 84 = .ok (.getfield 54, 3) := by decide +kernel
theorem dX8_anew_87 : decode cX8_anew 87 = .ok (.getfield 241, 3) := by decide +kernel
theorem dX8_anew_90 : decode cX8_anew 90 = .ok (.if_icmp .ge 38, 3) := by decide +kernel
theorem dX8_anew_93 : decode cX8_anew 93 = .ok (.aload_n 0, 1) := by decide +kernel
theorem dX8_anew_94 : decode cX8_anew 94 = .ok (.getfield 54, 3) := by decide +kernel
theorem dX8_anew_97 : decode cX8_anew 97 = .ok (.getfield 251, 3) := by decide +kernel
theorem dX8_anew_100 : decode cX8_anew 100 = .ok (.iload_n 1, 1) := by decide +kernel
theorem dX8_anew_101 : decode cX8_anew 101 = .ok (.iaload, 1) := by decide +kernel
theorem dX8_anew_102 : decode cX8_anew 102 = .ok (.istore_n 2, 1) := by decide +kernel
theorem dX8_anew_103 : decode cX8_anew 103 = .ok (.aload_n 0, 1) := by decide +kernel
theorem dX8_anew_104 : decode cX8_anew 104 = .ok (.getfield 54, 3) := by decide +kernel
theorem dX8_anew_107 : decode cX8_anew 107 = .ok (.getfield 254, 3) := by decide +kernel
theorem dX8_anew_110 : decode cX8_anew 110 = .ok (.iload_n 2, 1) := by decide +kernel
theorem dX8_anew_111 : decode cX8_anew 111 = .ok (.iload_n 1, 1) := by decide +kernel
theorem dX8_anew_112 : decode cX8_anew 112 = .ok (.iastore, 1) := by decide +kernel
theorem dX8_anew_113 : decode cX8_anew 113 = .ok (.aload_n 0, 1) := by decide +kernel
theorem dX8_anew_114 : decode cX8_anew 114 = .ok (.getfield 19, 3) := by decide +kernel
theorem dX8_anew_117 : decode cX8_anew 117 = .ok (.iload_n 2, 1) := by decide +kernel
theorem dX8_anew_118 : decode cX8_anew 118 = .ok (.iload_n 1, 1) := by decide +kernel
theorem dX8_anew_119 : decode cX8_anew 119 = .ok (.invokevirtual 257, 3) := by decide +kernel
theorem dX8_anew_122 : decode cX8_anew 122 = .ok (.iinc 1 1, 3) := by decide +kernel
theorem dX8_anew_125 : decode cX8_anew 125 = .ok (.goto (-43), 3) := by decide +kernel
theorem dX8_anew_128 : decode cX8_anew 128 = .ok (.aload_n 0, 1) := by decide +kernel
theorem dX8_anew_129 : decode cX8_anew 129 = .ok (.getfield 33, 3) := by decide +kernel
theorem dX8_anew_132 : decode cX8_anew 132 = .ok (.iconst 0, 1) := by decide +kernel
theorem dX8_anew_133 : decode cX8_anew 133 = .ok (.putfield 76, 3) := by decide +kernel
theorem dX8_anew_136 : decode cX8_anew 136 = .ok (.aload_n 0, 1) := by decide +kernel
theorem dX8_anew_137 : decode cX8_anew 137 = .ok (.getfield 54, 3) := by decide +kernel
theorem dX8_anew_140 : decode cX8_anew 140 = .ok (.aload_n 0, 1) := by decide +kernel
theorem dX8_anew_141 : decode cX8_anew 141 = .ok (.getfield 54, 3) := by decide +kernel
theorem dX8_anew_144 : decode cX8_anew 144 = .ok (.getfield 260, 3) := by decide +kernel
theorem dX8_anew_147 : decode cX8_anew 147 = .ok (.invokevirtual 263, 3) := by decide +kernel
theorem dX8_anew_150 : decode cX8_anew 150 = .ok (.ireturn, 1) := by decide +kernel
theorem dX8_why_0 : decode cX8_why 0 = .ok (.aload_n 0, 1) := by decide +kernel
theorem dX8_why_1 : decode cX8_why 1 = .ok (.iload_n 1, 1) := by decide +kernel
theorem dX8_why_2 : decode cX8_why 2 = .ok (.invokevirtual 101, 3) := by decide +kernel
theorem dX8_why_5 : decode cX8_why 5 = .ok (.istore_n 2, 1) := by decide +kernel
theorem dX8_why_6 : decode cX8_why 6 = .ok (.iload_n 2, 1) := by decide +kernel
theorem dX8_why_7 : decode cX8_why 7 = .ok (.ifCond .eq 7, 3) := by decide +kernel
theorem dX8_why_10 : decode cX8_why 10 = .ok (.iload_n 2, 1) := by decide +kernel
theorem dX8_why_11 : decode cX8_why 11 = .ok (.goto 12, 3) := by decide +kernel
theorem dX8_why_14 : decode cX8_why 14 = .ok (.aload_n 0, 1) := by decide +kernel
theorem dX8_why_15 : decode cX8_why 15 = .ok (.getfield 54, 3) := by decide +kernel
theorem dX8_why_18 : decode cX8_why 18 = .ok (.getfield 267, 3) := by decide +kernel
theorem dX8_why_21 : decode cX8_why 21 = .ok (.iload_n 1, 1) := by decide +kernel
theorem dX8_why_22 : decode cX8_why 22 = .ok (.iaload, 1) := by decide +kernel
theorem dX8_why_23 : decode cX8_why 23 = .ok (.ireturn, 1) := by decide +kernel
theorem dX8_passed_0 : decode cX8_passed 0 = .ok (.aload_n 0, 1) := by decide +kernel
theorem dX8_passed_1 : decode cX8_passed 1 = .ok (.getfield 19, 3) := by decide +kernel
theorem dX8_passed_4 : decode cX8_passed 4 = .ok (.iload_n 1, 1) := by decide +kernel
theorem dX8_passed_5 : decode cX8_passed 5 = .ok (.invokevirtual 87, 3) := by decide +kernel
theorem dX8_passed_8 : decode cX8_passed 8 = .ok (.ifCond .eq 14, 3) := by decide +kernel
theorem dX8_passed_11 : decode cX8_passed 11 = .ok (.aload_n 0, 1) := by decide +kernel
theorem dX8_passed_12 : decode cX8_passed 12 = .ok (.getfield 19, 3) := by decide +kernel
theorem dX8_passed_15 : decode cX8_passed 15 = .ok (.iload_n 2, 1) := by decide +kernel
theorem dX8_passed_16 : decode cX8_passed 16 = .ok (.invokevirtual 87, 3) := by decide +kernel
theorem dX8_passed_19 : decode cX8_passed 19 = .ok (.ifCond .ne 5, 3) := by decide +kernel
theorem dX8_passed_22 : decode cX8_passed 22 = .ok (.iconst (-1), 1) := by decide +kernel
theorem dX8_passed_23 : decode cX8_passed 23 = .ok (.ireturn, 1) := by decide +kernel
theorem dX8_passed_24 : decode cX8_passed 24 = .ok (.aload_n 0, 1) := by decide +kernel
theorem dX8_passed_25 : decode cX8_passed 25 = .ok (.getfield 19, 3) := by decide +kernel
theorem dX8_passed_28 : decode cX8_passed 28 = .ok (.getfield 90, 3) := by decide +kernel
theorem dX8_passed_31 : decode cX8_passed 31 = .ok (.iload_n 1, 1) := by decide +kernel
theorem dX8_passed_32 : decode cX8_passed 32 = .ok (.baload, 1) := by decide +kernel
theorem dX8_passed_33 : decode cX8_passed 33 = .ok (.ifCond .ne 15, 3) := by decide +kernel
theorem dX8_passed_36 : decode cX8_passed 36 = .ok (.aload_n 0, 1) := by decide +kernel
theorem dX8_passed_37 : decode cX8_passed 37 = .ok (.getfield 19, 3) := by decide +kernel
theorem dX8_passed_40 : decode cX8_passed 40 = .ok (.getfield 90, 3) := by decide +kernel
theorem dX8_passed_43 : decode cX8_passed 43 = .ok (.iload_n 2, 1) := by decide +kernel
theorem dX8_passed_44 : decode cX8_passed 44 = .ok (.baload, 1) := by decide +kernel
theorem dX8_passed_45 : decode cX8_passed 45 = .ok (.ifCond .eq 12, 3) := by decide +kernel
theorem dX8_passed_48 : decode cX8_passed 48 = .ok (.aload_n 0, 1) := by decide +kernel
theorem dX8_passed_49 : decode cX8_passed 49 = .ok (.getfield 12, 3) := by decide +kernel
theorem dX8_passed_52 : decode cX8_passed 52 = .ok (.iconst 1, 1) := by decide +kernel
theorem dX8_passed_53 : decode cX8_passed 53 = .ok (.invokevirtual 94, 3) := by decide +kernel
theorem dX8_passed_56 : decode cX8_passed 56 = .ok (.ireturn, 1) := by decide +kernel
theorem dX8_passed_57 : decode cX8_passed 57 = .ok (.aload_n 0, 1) := by decide +kernel
theorem dX8_passed_58 : decode cX8_passed 58 = .ok (.getfield 54, 3) := by decide +kernel
theorem dX8_passed_61 : decode cX8_passed 61 = .ok (.iload_n 1, 1) := by decide +kernel
theorem dX8_passed_62 : decode cX8_passed 62 = .ok (.iload_n 2, 1) := by decide +kernel
theorem dX8_passed_63 : decode cX8_passed 63 = .ok (.invokevirtual 270, 3) := by decide +kernel
theorem dX8_passed_66 : decode cX8_passed 66 = .ok (.ifCond .eq 7, 3) := by decide +kernel
theorem dX8_passed_69 : decode cX8_passed 69 = .ok (.iconst 1, 1) := by decide +kernel
theorem dX8_passed_70 : decode cX8_passed 70 = .ok (.goto 4, 3) := by decide +kernel
theorem dX8_passed_73 : decode cX8_passed 73 = .ok (.iconst 0, 1) := by decide +kernel
theorem dX8_passed_74 : decode cX8_passed 74 = .ok (.ireturn, 1) := by decide +kernel
theorem dX8_beside_0 : decode cX8_beside 0 = .ok (.aload_n 0, 1) := by decide +kernel
theorem dX8_beside_1 : decode cX8_beside 1 = .ok (.getfield 33, 3) := by decide +kernel
theorem dX8_beside_4 : decode cX8_beside 4 = .ok (.iload_n 1, 1) := by decide +kernel
theorem dX8_beside_5 : decode cX8_beside 5 = .ok (.invokevirtual 206, 3) := by decide +kernel
theorem dX8_beside_8 : decode cX8_beside 8 = .ok (.ifCond .ne 5, 3) := by decide +kernel
theorem dX8_beside_11 : decode cX8_beside 11 = .ok (.iconst (-1), 1) := by decide +kernel
theorem dX8_beside_12 : decode cX8_beside 12 = .ok (.ireturn, 1) := by decide +kernel
theorem dX8_beside_13 : decode cX8_beside 13 = .ok (.aload_n 0, 1) := by decide +kernel
theorem dX8_beside_14 : decode cX8_beside 14 = .ok (.getfield 54, 3) := by decide +kernel
theorem dX8_beside_17 : decode cX8_beside 17 = .ok (.getfield 80, 3) := by decide +kernel
theorem dX8_beside_20 : decode cX8_beside 20 = .ok (.ifCond .ne 6, 3) := by decide +kernel
theorem dX8_beside_23 : decode cX8_beside 23 = .ok (.bipush (-4), 2) := by decide +kernel
theorem dX8_beside_25 : decode cX8_beside 25 = .ok (.ireturn, 1) := by decide +kernel
theorem dX8_beside_26 : decode cX8_beside 26 = .ok (.iconst 0, 1) := by decide +kernel
theorem dX8_beside_27 : decode cX8_beside 27 = .ok (.istore_n 2, 1) := by decide +kernel
theorem dX8_beside_28 : decode cX8_beside 28 = .ok (.iload_n 2, 1) := by decide +kernel
theorem dX8_beside_29 : decode cX8_beside 29 = .ok (.aload_n 0, 1) := by decide +kernel
theorem dX8_beside_30 : decode cX8_beside 30 = .ok (.getfield 54, 3) := by decide +kernel
theorem dX8_beside_33 : decode cX8_beside 33 = .ok (.getfield 241, 3) := by decide +kernel
theorem dX8_beside_36 : decode cX8_beside 36 = .ok (.if_icmp .ge 67, 3) := by decide +kernel
theorem dX8_beside_39 : decode cX8_beside 39 = .ok (.aload_n 0, 1) := by decide +kernel
theorem dX8_beside_40 : decode cX8_beside 40 = .ok (.getfield 54, 3) := by decide +kernel
theorem dX8_beside_43 : decode cX8_beside 43 = .ok (.getfield 242, 3) := by decide +kernel
theorem dX8_beside_46 : decode cX8_beside 46 = .ok (.iload_n 2, 1) := by decide +kernel
theorem dX8_beside_47 : decode cX8_beside 47 = .ok (.iaload, 1) := by decide +kernel
theorem dX8_beside_48 : decode cX8_beside 48 = .ok (.istore_n 3, 1) := by decide +kernel
theorem dX8_beside_49 : decode cX8_beside 49 = .ok (.aload_n 0, 1) := by decide +kernel
theorem dX8_beside_50 : decode cX8_beside 50 = .ok (.getfield 47, 3) := by decide +kernel
theorem dX8_beside_53 : decode cX8_beside 53 = .ok (.aload_n 0, 1) := by decide +kernel
theorem dX8_beside_54 : decode cX8_beside 54 = .ok (.iload_n 3, 1) := by decide +kernel
theorem dX8_beside_55 : decode cX8_beside 55 = .ok (.iload_n 1, 1) := by decide +kernel
theorem dX8_beside_56 : decode cX8_beside 56 = .ok (.invokevirtual 273, 3) := by decide +kernel
theorem dX8_beside_59 : decode cX8_beside 59 = .ok (.aload_n 0, 1) := by decide +kernel
theorem dX8_beside_60 : decode cX8_beside 60 = .ok (.getfield 54, 3) := by decide +kernel
theorem dX8_beside_63 : decode cX8_beside 63 = .ok (.getfield 276, 3) := by decide +kernel
theorem dX8_beside_66 : decode cX8_beside 66 = .ok (.invokevirtual 279, 3) := by decide +kernel
theorem dX8_beside_69 : decode cX8_beside 69 = .ok (.istore 4, 2) := by decide +kernel
theorem dX8_beside_71 : decode cX8_beside 71 = .ok (.aload_n 0, 1) := by decide +kernel
theorem dX8_beside_72 : decode cX8_beside 72 = .ok (.getfield 54, 3) := by decide +kernel
theorem dX8_beside_75 : decode cX8_beside 75 = .ok (.iload_n 3, 1) := by decide +kernel
theorem dX8_beside_76 : decode cX8_beside 76 = .ok (.aload_n 0, 1) := by decide +kernel
theorem dX8_beside_77 : decode cX8_beside 77 = .ok (.getfield 47, 3) := by decide +kernel
theorem dX8_beside_80 : decode cX8_beside 80 = .ok (.iload 4, 2) := by decide +kernel
theorem dX8_beside_82 : decode cX8_beside 82 = .ok (.aload_n 0, 1) := by decide +kernel
theorem dX8_beside_83 : decode cX8_beside 83 = .ok (.getfield 19, 3) := by decide +kernel
theorem dX8_beside_86 : decode cX8_beside 86 = .ok (.getfield 282, 3) := by decide +kernel
theorem dX8_beside_89 : decode cX8_beside 89 = .ok (.iload_n 3, 1) := by decide +kernel
theorem dX8_beside_90 : decode cX8_beside 90 = .ok (.iaload, 1) := by decide +kernel
theorem dX8_beside_91 : decode cX8_beside 91 = .ok (.invokevirtual 285, 3) := by decide +kernel
theorem dX8_beside_94 : decode cX8_beside 94 = .ok (.invokevirtual 288, 3) := by decide +kernel
theorem dX8_beside_97 : decode cX8_beside 97 = .ok (.iinc 2 1, 3) := by decide +kernel
theorem dX8_beside_100 : decode cX8_beside 100 = .ok (.goto (-72), 3) := by decide +kernel
theorem dX8_beside_103 : decode cX8_beside 103 = .ok (.aload_n 0, 1) := by decide +kernel
theorem dX8_beside_104 : decode cX8_beside 104 = .ok (.getfield 54, 3) := by decide +kernel
theorem dX8_beside_107 : decode cX8_beside 107 = .ok (.invokevirtual 248, 3) := by decide +kernel
theorem dX8_beside_110 : decode cX8_beside 110 = .ok (.iconst 0, 1) := by decide +kernel
theorem dX8_beside_111 : decode cX8_beside 111 = .ok (.istore_n 2, 1) := by decide +kernel
theorem dX8_beside_112 : decode cX8_beside 112 = .ok (.iload_n 2, 1) := by decide +kernel
theorem dX8_beside_113 : decode cX8_beside 113 = .ok (.aload_n 0, 1) := by decide +kernel
theorem dX8_beside_114 : decode cX8_beside 114 = .ok (.getfield 54, 3) := by decide +kernel
theorem dX8_beside_117 : decode cX8_beside 117 = .ok (.getfield 241, 3) := by decide +kernel
theorem dX8_beside_120 : decode cX8_beside 120 = .ok (.if_icmp .ge 27, 3) := by decide +kernel
theorem dX8_beside_123 : decode cX8_beside 123 = .ok (.aload_n 0, 1) := by decide +kernel
theorem dX8_beside_124 : decode cX8_beside 124 = .ok (.getfield 54, 3) := by decide +kernel
theorem dX8_beside_127 : decode cX8_beside 127 = .ok (.getfield 291, 3) := by decide +kernel
theorem dX8_beside_130 : decode cX8_beside 130 = .ok (.aload_n 0, 1) := by decide +kernel
theorem dX8_beside_131 : decode cX8_beside 131 = .ok (.getfield 54, 3) := by decide +kernel
theorem dX8_beside_134 : decode cX8_beside 134 = .ok (.getfield 251, 3) := by decide +kernel
theorem dX8_beside_137 : decode cX8_beside 137 = .ok (.iload_n 2, 1) := by decide +kernel
theorem dX8_beside_138 : decode cX8_beside 138 = .ok (.iaload, 1) := by decide +kernel
theorem dX8_beside_139 : decode cX8_beside 139 = .ok (.iload_n 2, 1) := by decide +kernel
theorem dX8_beside_140 : decode cX8_beside 140 = .ok (.iastore, 1) := by decide +kernel
theorem dX8_beside_141 : decode cX8_beside 141 = .ok (.iinc 2 1, 3) := by decide +kernel
theorem dX8_beside_144 : decode cX8_beside 144 = .ok (.goto (-32), 3) := by decide +kernel
theorem dX8_beside_147 : decode cX8_beside 147 = .ok (.aload_n 0, 1) := by decide +kernel
theorem dX8_beside_148 : decode cX8_beside 148 = .ok (.getfield 54, 3) := by decide +kernel
theorem dX8_beside_151 : decode cX8_beside 151 = .ok (.aload_n 0, 1) := by decide +kernel
theorem dX8_beside_152 : decode cX8_beside 152 = .ok (.getfield 54, 3) := by decide +kernel
theorem dX8_beside_155 : decode cX8_beside 155 = .ok (.getfield 291, 3) := by decide +kernel
theorem dX8_beside_158 : decode cX8_beside 158 = .ok (.invokevirtual 263, 3) := by decide +kernel
theorem dX8_beside_161 : decode cX8_beside 161 = .ok (.ireturn, 1) := by decide +kernel
theorem dX8_rungBeside_0 : decode cX8_rungBeside 0 = .ok (.aload_n 0, 1) := by decide +kernel
theorem dX8_rungBeside_1 : decode cX8_rungBeside 1 = .ok (.iload_n 1, 1) := by decide +kernel
theorem dX8_rungBeside_2 : decode cX8_rungBeside 2 = .ok (.invokevirtual 101, 3) := by decide +kernel
theorem dX8_rungBeside_5 : decode cX8_rungBeside 5 = .ok (.istore_n 2, 1) := by decide +kernel
theorem dX8_rungBeside_6 : decode cX8_rungBeside 6 = .ok (.iload_n 2, 1) := by decide +kernel
theorem dX8_rungBeside_7 : decode cX8_rungBeside 7 = .ok (.ifCond .eq 7, 3) := by decide +kernel
theorem dX8_rungBeside_10 : decode cX8_rungBeside 10 = .ok (.iload_n 2, 1) := by decide +kernel
theorem dX8_rungBeside_11 : decode cX8_rungBeside 11 = .ok (.goto 12, 3) := by decide +kernel
theorem dX8_rungBeside_14 : decode cX8_rungBeside 14 = .ok (.aload_n 0, 1) := by decide +kernel
theorem dX8_rungBeside_15 : decode cX8_rungBeside 15 = .ok (.getfield 54, 3) := by decide +kernel
theorem dX8_rungBeside_18 : decode cX8_rungBeside 18 = .ok (.getfield 291, 3) := by decide +kernel
theorem dX8_rungBeside_21 : decode cX8_rungBeside 21 = .ok (.iload_n 1, 1) := by decide +kernel
theorem dX8_rungBeside_22 : decode cX8_rungBeside 22 = .ok (.iaload, 1) := by decide +kernel
theorem dX8_rungBeside_23 : decode cX8_rungBeside 23 = .ok (.ireturn, 1) := by decide +kernel
theorem dX8_leaders_0 : decode cX8_leaders 0 = .ok (.aload_n 0, 1) := by decide +kernel
theorem dX8_leaders_1 : decode cX8_leaders 1 = .ok (.getfield 33, 3) := by decide +kernel
theorem dX8_leaders_4 : decode cX8_leaders 4 = .ok (.getfield 76, 3) := by decide +kernel
theorem dX8_leaders_7 : decode cX8_leaders 7 = .ok (.ifCond .ne 6, 3) := by decide +kernel
theorem dX8_leaders_10 : decode cX8_leaders 10 = .ok (.bipush (-4), 2) := by decide +kernel
theorem dX8_leaders_12 : decode cX8_leaders 12 = .ok (.ireturn, 1) := by decide +kernel
theorem dX8_leaders_13 : decode cX8_leaders 13 = .ok (.aload_n 0, 1) := by decide +kernel
theorem dX8_leaders_14 : decode cX8_leaders 14 = .ok (.getfield 19, 3) := by decide +kernel
theorem dX8_leaders_17 : decode cX8_leaders 17 = .ok (.invokevirtual 294, 3) := by decide +kernel
theorem dX8_leaders_20 : decode cX8_leaders 20 = .ok (.istore_n 1, 1) := by decide +kernel
theorem dX8_leaders_21 : decode cX8_leaders 21 = .ok (.iconst 0, 1) := by decide +kernel
theorem dX8_leaders_22 : decode cX8_leaders 22 = .ok (.istore_n 2, 1) := by decide +kernel
theorem dX8_leaders_23 : decode cX8_leaders 23 = .ok (.iconst 0, 1) := by decide +kernel
theorem dX8_leaders_24 : decode cX8_leaders 24 = .ok (.istore_n 3, 1) := by decide +kernel
theorem dX8_leaders_25 : decode cX8_leaders 25 = .ok (.iload_n 3, 1) := by decide +kernel
theorem dX8_leaders_26 : decode cX8_leaders 26 = .ok (.aload_n 0, 1) := by decide +kernel
theorem dX8_leaders_27 : decode cX8_leaders 27 = .ok (.getfield 19, 3) := by decide +kernel
theorem dX8_leaders_30 : decode cX8_leaders 30 = .ok (.getfield 112, 3) := by decide +kernel
theorem dX8_leaders_33 : decode cX8_leaders 33 = .ok (.if_icmp .ge 41, 3) := by decide +kernel
theorem dX8_leaders_36 : decode cX8_leaders 36 = .ok (.aload_n 0, 1) := by decide +kernel
theorem dX8_leaders_37 : decode cX8_leaders 37 = .ok (.getfield 19, 3) := by decide +kernel
theorem dX8_leaders_40 : decode cX8_leaders 40 = .ok (.getfield 115, 3) := by decide +kernel
theorem dX8_leaders_43 : decode cX8_leaders 43 = .ok (.iload_n 3, 1) := by decide +kernel
theorem dX8_leaders_44 : decode cX8_leaders 44 = .ok (.iaload, 1) := by decide +kernel
theorem dX8_leaders_45 : decode cX8_leaders 45 = .ok (.istore 4, 2) := by decide +kernel
theorem dX8_leaders_47 : decode cX8_leaders 47 = .ok (.aload_n 0, 1) := by decide +kernel
theorem dX8_leaders_48 : decode cX8_leaders 48 = .ok (.getfield 19, 3) := by decide +kernel
theorem dX8_leaders_51 : decode cX8_leaders 51 = .ok (.getfield 125, 3) := by decide +kernel
theorem dX8_leaders_54 : decode cX8_leaders 54 = .ok (.iload 4, 2) := by decide +kernel
theorem dX8_leaders_56 : decode cX8_leaders 56 = .ok (.iaload, 1) := by decide +kernel
theorem dX8_leaders_57 : decode cX8_leaders 57 = .ok (.iload_n 1, 1) := by decide +kernel
theorem dX8_leaders_58 : decode cX8_leaders 58 = .ok (.if_icmp .ne 10, 3) := by decide +kernel
theorem dX8_leaders_61 : decode cX8_leaders 61 = .ok (.iload_n 2, 1) := by decide +kernel
theorem dX8_leaders_62 : decode cX8_leaders 62 = .ok (.iconst 1, 1) := by decide +kernel
theorem dX8_leaders_63 : decode cX8_leaders 63 = .ok (.iload 4, 2) := by decide +kernel
theorem dX8_leaders_65 : decode cX8_leaders 65 = .ok (.ishl, 1) := by decide +kernel
theorem dX8_leaders_66 : decode cX8_leaders 66 = .ok (.ior, 1) := by decide +kernel
theorem dX8_leaders_67 : decode cX8_leaders 67 = .ok (.istore_n 2, 1) := by decide +kernel
theorem dX8_leaders_68 : decode cX8_leaders 68 = .ok (.iinc 3 1, 3) := by decide +kernel
theorem dX8_leaders_71 : decode cX8_leaders 71 = .ok (.goto (-46), 3) := by decide +kernel
theorem dX8_leaders_74 : decode cX8_leaders 74 = .ok (.iload_n 2, 1) := by decide +kernel
theorem dX8_leaders_75 : decode cX8_leaders 75 = .ok (.ireturn, 1) := by decide +kernel
theorem dX8_playOff_0 : decode cX8_playOff 0 = .ok (.aload_n 0, 1) := by decide +kernel
theorem dX8_playOff_1 : decode cX8_playOff 1 = .ok (.getfield 33, 3) := by decide +kernel
theorem dX8_playOff_4 : decode cX8_playOff 4 = .ok (.invokevirtual 230, 3) := by decide +kernel
theorem dX8_playOff_7 : decode cX8_playOff 7 = .ok (.ifCond .eq 23, 3) := by decide +kernel
theorem dX8_playOff_10 : decode cX8_playOff 10 = .ok (.aload_n 0, 1) := by decide +kernel
theorem dX8_playOff_11 : decode cX8_playOff 11 = .ok (.getfield 61, 3) := by decide +kernel
theorem dX8_playOff_14 : decode cX8_playOff 14 = .ok (.getfield 297, 3) := by decide +kernel
theorem dX8_playOff_17 : decode cX8_playOff 17 = .ok (.ifCond .ne 13, 3) := by decide +kernel
theorem dX8_playOff_20 : decode cX8_playOff 20 = .ok (.aload_n 0, 1) := by decide +kernel
theorem dX8_playOff_21 : decode cX8_playOff 21 = .ok (.getfield 19, 3) := by decide +kernel
theorem dX8_playOff_24 : decode cX8_playOff 24 = .ok (.getfield 112, 3) := by decide +kernel
theorem dX8_playOff_27 : decode cX8_playOff 27 = .ok (.ifCond .ne 6, 3) := by decide +kernel
theorem dX8_playOff_30 : decode cX8_playOff 30 = .ok (.bipush (-4), 2) := by decide +kernel
theorem dX8_playOff_32 : decode cX8_playOff 32 = .ok (.ireturn, 1) := by decide +kernel
theorem dX8_playOff_33 : decode cX8_playOff 33 = .ok (.aload_n 0, 1) := by decide +kernel
theorem dX8_playOff_34 : decode cX8_playOff 34 = .ok (.getfield 61, 3) := by decide +kernel
theorem dX8_playOff_37 : decode cX8_playOff 37 = .ok (.iconst 1, 1) := by decide +kernel
theorem dX8_playOff_38 : decode cX8_playOff 38 = .ok (.putfield 297, 3) := by decide +kernel
theorem dX8_playOff_41 : decode cX8_playOff 41 = .ok (.aload_n 0, 1) := by decide +kernel
theorem dX8_playOff_42 : decode cX8_playOff 42 = .ok (.getfield 19, 3) := by decide +kernel
theorem dX8_playOff_45 : decode cX8_playOff 45 = .ok (.invokevirtual 294, 3) := by decide +kernel
theorem dX8_playOff_48 : decode cX8_playOff 48 = .ok (.istore_n 1, 1) := by decide +kernel
theorem dX8_playOff_49 : decode cX8_playOff 49 = .ok (.iconst 0, 1) := by decide +kernel
theorem dX8_playOff_50 : decode cX8_playOff 50 = .ok (.istore_n 2, 1) := by decide +kernel
theorem dX8_playOff_51 : decode cX8_playOff 51 = .ok (.iload_n 2, 1) := by decide +kernel
theorem dX8_playOff_52 : decode cX8_playOff 52 = .ok (.aload_n 0, 1) := by decide +kernel
theorem dX8_playOff_53 : decode cX8_playOff 53 = .ok (.getfield 19, 3) := by decide +kernel
theorem dX8_playOff_56 : decode cX8_playOff 56 = .ok (.getfield 112, 3) := by decide +kernel
theorem dX8_playOff_59 : decode cX8_playOff 59 = .ok (.if_icmp .ge 40, 3) := by decide +kernel
theorem dX8_playOff_62 : decode cX8_playOff 62 = .ok (.aload_n 0, 1) := by decide +kernel
theorem dX8_playOff_63 : decode cX8_playOff 63 = .ok (.getfield 19, 3) := by decide +kernel
theorem dX8_playOff_66 : decode cX8_playOff 66 = .ok (.getfield 115, 3) := by decide +kernel
theorem dX8_playOff_69 : decode cX8_playOff 69 = .ok (.iload_n 2, 1) := by decide +kernel
theorem dX8_playOff_70 : decode cX8_playOff 70 = .ok (.iaload, 1) := by decide +kernel
theorem dX8_playOff_71 : decode cX8_playOff 71 = .ok (.istore_n 3, 1) := by decide +kernel
theorem dX8_playOff_72 : decode cX8_playOff 72 = .ok (.aload_n 0, 1) := by decide +kernel
theorem dX8_playOff_73 : decode cX8_playOff 73 = .ok (.getfield 19, 3) := by decide +kernel
theorem dX8_playOff_76 : decode cX8_playOff 76 = .ok (.getfield 125, 3) := by decide +kernel
theorem dX8_playOff_79 : decode cX8_playOff 79 = .ok (.iload_n 3, 1) := by decide +kernel
theorem dX8_playOff_80 : decode cX8_playOff 80 = .ok (.iaload, 1) := by decide +kernel
theorem dX8_playOff_81 : decode cX8_playOff 81 = .ok (.iload_n 1, 1) := by decide +kernel
theorem dX8_playOff_82 : decode cX8_playOff 82 = .ok (.if_icmp .ne 11, 3) := by decide +kernel
theorem dX8_playOff_85 : decode cX8_playOff 85 = .ok (.aload_n 0, 1) := by decide +kernel
theorem dX8_playOff_86 : decode cX8_playOff 86 = .ok (.getfield 61, 3) := by decide +kernel
theorem dX8_playOff_89 : decode cX8_playOff 89 = .ok (.iload_n 3, 1) := by decide +kernel
theorem dX8_playOff_90 : decode cX8_playOff 90 = .ok (.invokevirtual 300, 3) := by decide +kernel
theorem dX8_playOff_93 : decode cX8_playOff 93 = .ok (.iinc 2 1, 3) := by decide +kernel
theorem dX8_playOff_96 : decode cX8_playOff 96 = .ok (.goto (-45), 3) := by decide +kernel
theorem dX8_playOff_99 : decode cX8_playOff 99 = .ok (.aload_n 0, 1) := by decide +kernel
theorem dX8_playOff_100 : decode cX8_playOff 100 = .ok (.invokevirtual 303, 3) := by decide +kernel
theorem dX8_playOff_103 : decode cX8_playOff 103 = .ok (.aload_n 0, 1) := by decide +kernel
theorem dX8_playOff_104 : decode cX8_playOff 104 = .ok (.getfield 61, 3) := by decide +kernel
theorem dX8_playOff_107 : decode cX8_playOff 107 = .ok (.getfield 306, 3) := by decide +kernel
theorem dX8_playOff_110 : decode cX8_playOff 110 = .ok (.ireturn, 1) := by decide +kernel
theorem dX8_meets_0 : decode cX8_meets 0 = .ok (.aload_n 0, 1) := by decide +kernel
theorem dX8_meets_1 : decode cX8_meets 1 = .ok (.getfield 61, 3) := by decide +kernel
theorem dX8_meets_4 : decode cX8_meets 4 = .ok (.invokevirtual 234, 3) := by decide +kernel
theorem dX8_meets_7 : decode cX8_meets 7 = .ok (.ifCond .ne 6, 3) := by decide +kernel
theorem dX8_meets_10 : decode cX8_meets 10 = .ok (.bipush (-9), 2) := by decide +kernel
theorem dX8_meets_12 : decode cX8_meets 12 = .ok (.ireturn, 1) := by decide +kernel
theorem dX8_meets_13 : decode cX8_meets 13 = .ok (.aload_n 0, 1) := by decide +kernel
theorem dX8_meets_14 : decode cX8_meets 14 = .ok (.getfield 61, 3) := by decide +kernel
theorem dX8_meets_17 : decode cX8_meets 17 = .ok (.getfield 309, 3) := by decide +kernel
theorem dX8_meets_20 : decode cX8_meets 20 = .ok (.iload_n 1, 1) := by decide +kernel
theorem dX8_meets_21 : decode cX8_meets 21 = .ok (.ifCond .eq 7, 3) := by decide +kernel
theorem dX8_meets_24 : decode cX8_meets 24 = .ok (.iconst 1, 1) := by decide +kernel
theorem dX8_meets_25 : decode cX8_meets 25 = .ok (.goto 4, 3) := by decide +kernel
theorem dX8_meets_28 : decode cX8_meets 28 = .ok (.iconst 0, 1) := by decide +kernel
theorem dX8_meets_29 : decode cX8_meets 29 = .ok (.iaload, 1) := by decide +kernel
theorem dX8_meets_30 : decode cX8_meets 30 = .ok (.ireturn, 1) := by decide +kernel
theorem dX8_wins_0 : decode cX8_wins 0 = .ok (.aload_n 0, 1) := by decide +kernel
theorem dX8_wins_1 : decode cX8_wins 1 = .ok (.getfield 61, 3) := by decide +kernel
theorem dX8_wins_4 : decode cX8_wins 4 = .ok (.invokevirtual 234, 3) := by decide +kernel
theorem dX8_wins_7 : decode cX8_wins 7 = .ok (.ifCond .ne 6, 3) := by decide +kernel
theorem dX8_wins_10 : decode cX8_wins 10 = .ok (.bipush (-4), 2) := by decide +kernel
theorem dX8_wins_12 : decode cX8_wins 12 = .ok (.ireturn, 1) := by decide +kernel
theorem dX8_wins_13 : decode cX8_wins 13 = .ok (.aload_n 0, 1) := by decide +kernel
theorem dX8_wins_14 : decode cX8_wins 14 = .ok (.getfield 61, 3) := by decide +kernel
theorem dX8_wins_17 : decode cX8_wins 17 = .ok (.iload_n 1, 1) := by decide +kernel
theorem dX8_wins_18 : decode cX8_wins 18 = .ok (.invokevirtual 312, 3) := by decide +kernel
theorem dX8_wins_21 : decode cX8_wins 21 = .ok (.aload_n 0, 1) := by decide +kernel
theorem dX8_wins_22 : decode cX8_wins 22 = .ok (.invokevirtual 303, 3) := by decide +kernel
theorem dX8_wins_25 : decode cX8_wins 25 = .ok (.aload_n 0, 1) := by decide +kernel
theorem dX8_wins_26 : decode cX8_wins 26 = .ok (.getfield 61, 3) := by decide +kernel
theorem dX8_wins_29 : decode cX8_wins 29 = .ok (.getfield 306, 3) := by decide +kernel
theorem dX8_wins_32 : decode cX8_wins 32 = .ok (.ireturn, 1) := by decide +kernel
theorem dX8_champion_0 : decode cX8_champion 0 = .ok (.aload_n 0, 1) := by decide +kernel
theorem dX8_champion_1 : decode cX8_champion 1 = .ok (.getfield 61, 3) := by decide +kernel
theorem dX8_champion_4 : decode cX8_champion 4 = .ok (.getfield 316, 3) := by decide +kernel
theorem dX8_champion_7 : decode cX8_champion 7 = .ok (.ireturn, 1) := by decide +kernel
theorem dX8_count_0 : decode cX8_count 0 = .ok (.aload_n 0, 1) := by decide +kernel
theorem dX8_count_1 : decode cX8_count 1 = .ok (.iload_n 1, 1) := by decide +kernel
theorem dX8_count_2 : decode cX8_count 2 = .ok (.invokevirtual 319, 3) := by decide +kernel
theorem dX8_count_5 : decode cX8_count 5 = .ok (.ireturn, 1) := by decide +kernel
theorem dX8_finding_0 : decode cX8_finding 0 = .ok (.aload_n 0, 1) := by decide +kernel
theorem dX8_finding_1 : decode cX8_finding 1 = .ok (.getfield 12, 3) := by decide +kernel
theorem dX8_finding_4 : decode cX8_finding 4 = .ok (.getfield 322, 3) := by decide +kernel
theorem dX8_finding_7 : decode cX8_finding 7 = .ok (.ireturn, 1) := by decide +kernel
theorem dX8_findings_0 : decode cX8_findings 0 = .ok (.iload_n 1, 1) := by decide +kernel
theorem dX8_findings_1 : decode cX8_findings 1 = .ok (.iconst 1, 1) := by decide +kernel
theorem dX8_findings_2 : decode cX8_findings 2 = .ok (.if_icmp .lt 8, 3) := by decide +kernel
theorem dX8_findings_5 : decode cX8_findings 5 = .ok (.iload_n 1, 1) := by decide +kernel
theorem dX8_findings_6 : decode cX8_findings 6 = .ok (.iconst 5, 1) := by decide +kernel
theorem dX8_findings_7 : decode cX8_findings 7 = .ok (.if_icmp .le 5, 3) := by decide +kernel
theorem dX8_findings_10 : decode cX8_findings 10 = .ok (.iconst (-1), 1) := by decide +kernel
theorem dX8_findings_11 : decode cX8_findings 11 = .ok (.ireturn, 1) := by decide +kernel
theorem dX8_findings_12 : decode cX8_findings 12 = .ok (.aload_n 0, 1) := by decide +kernel
theorem dX8_findings_13 : decode cX8_findings 13 = .ok (.getfield 12, 3) := by decide +kernel
theorem dX8_findings_16 : decode cX8_findings 16 = .ok (.getfield 325, 3) := by decide +kernel
theorem dX8_findings_19 : decode cX8_findings 19 = .ok (.iload_n 1, 1) := by decide +kernel
theorem dX8_findings_20 : decode cX8_findings 20 = .ok (.iaload, 1) := by decide +kernel
theorem dX8_findings_21 : decode cX8_findings 21 = .ok (.ireturn, 1) := by decide +kernel
theorem dX8_digest_0 : decode cX8_digest 0 = .ok (.ldc2_w 328, 3) := by decide +kernel
theorem dX8_digest_3 : decode cX8_digest 3 = .ok (.lstore_n 1, 1) := by decide +kernel
theorem dX8_digest_4 : decode cX8_digest 4 = .ok (.iconst 0, 1) := by decide +kernel
theorem dX8_digest_5 : decode cX8_digest 5 = .ok (.istore_n 3, 1) := by decide +kernel
theorem dX8_digest_6 : decode cX8_digest 6 = .ok (.iload_n 3, 1) := by decide +kernel
theorem dX8_digest_7 : decode cX8_digest 7 = .ok (.aload_n 0, 1) := by decide +kernel
theorem dX8_digest_8 : decode cX8_digest 8 = .ok (.getfield 19, 3) := by decide +kernel
theorem dX8_digest_11 : decode cX8_digest 11 = .ok (.getfield 72, 3) := by decide +kernel
theorem dX8_digest_14 : decode cX8_digest 14 = .ok (.if_icmp .ge 16, 3) := by decide +kernel
theorem dX8_digest_17 : decode cX8_digest 17 = .ok (.aload_n 0, 1) := by decide +kernel
theorem dX8_digest_18 : decode cX8_digest 18 = .ok (.lload_n 1, 1) := by decide +kernel
theorem dX8_digest_19 : decode cX8_digest 19 = .ok (.iload_n 3, 1) := by decide +kernel
theorem dX8_digest_20 : decode cX8_digest 20 = .ok (.invokevirtual 330, 3) := by decide +kernel
theorem dX8_digest_23 : decode cX8_digest 23 = .ok (.lstore_n 1, 1) := by decide +kernel
theorem dX8_digest_24 : decode cX8_digest 24 = .ok (.iinc 3 1, 3) := by decide +kernel
theorem dX8_digest_27 : decode cX8_digest 27 = .ok (.goto (-21), 3) := by decide +kernel
theorem dX8_digest_30 : decode cX8_digest 30 = .ok (.iconst 0, 1) := by decide +kernel
theorem dX8_digest_31 : decode cX8_digest 31 = .ok (.istore_n 3, 1) := by decide +kernel
theorem dX8_digest_32 : decode cX8_digest 32 = .ok (.iload_n 3, 1) := by decide +kernel
theorem dX8_digest_33 : decode cX8_digest 33 = .ok (.aload_n 0, 1) := by decide +kernel
theorem dX8_digest_34 : decode cX8_digest 34 = .ok (.getfield 19, 3) := by decide +kernel
theorem dX8_digest_37 : decode cX8_digest 37 = .ok (.getfield 112, 3) := by decide +kernel
theorem dX8_digest_40 : decode cX8_digest 40 = .ok (.if_icmp .ge 26, 3) := by decide +kernel
theorem dX8_digest_43 : decode cX8_digest 43 = .ok (.ldc2_w 334, 3) := by decide +kernel
theorem dX8_digest_46 : decode cX8_digest 46 = .ok (.lload_n 1, 1) := by decide +kernel
theorem dX8_digest_47 : decode cX8_digest 47 = .ok (.lmul, 1) := by decide +kernel
theorem dX8_digest_48 : decode cX8_digest 48 = .ok (.aload_n 0, 1) := by decide +kernel
theorem dX8_digest_49 : decode cX8_digest 49 = .ok (.getfield 19, 3) := by decide +kernel
theorem dX8_digest_52 : decode cX8_digest 52 = .ok (.getfield 115, 3) := by decide +kernel
theorem dX8_digest_55 : decode cX8_digest 55 = .ok (.iload_n 3, 1) := by decide +kernel
theorem dX8_digest_56 : decode cX8_digest 56 = .ok (.iaload, 1) := by decide +kernel
theorem dX8_digest_57 : decode cX8_digest 57 = .ok (.i2l, 1) := by decide +kernel
theorem dX8_digest_58 : decode cX8_digest 58 = .ok (.ladd, 1) := by decide +kernel
theorem dX8_digest_59 : decode cX8_digest 59 = .ok (.lstore_n 1, 1) := by decide +kernel
theorem dX8_digest_60 : decode cX8_digest 60 = .ok (.iinc 3 1, 3) := by decide +kernel
theorem dX8_digest_63 : decode cX8_digest 63 = .ok (.goto (-31), 3) := by decide +kernel
theorem dX8_digest_66 : decode cX8_digest 66 = .ok (.iconst 0, 1) := by decide +kernel
theorem dX8_digest_67 : decode cX8_digest 67 = .ok (.istore_n 3, 1) := by decide +kernel
theorem dX8_digest_68 : decode cX8_digest 68 = .ok (.iload_n 3, 1) := by decide +kernel
theorem dX8_digest_69 : decode cX8_digest 69 = .ok (.aload_n 0, 1) := by decide +kernel
theorem dX8_digest_70 : decode cX8_digest 70 = .ok (.getfield 33, 3) := by decide +kernel
theorem dX8_digest_73 : decode cX8_digest 73 = .ok (.getfield 336, 3) := by decide +kernel
theorem dX8_digest_76 : decode cX8_digest 76 = .ok (.if_icmp .ge 42, 3) := by decide +kernel
theorem dX8_digest_79 : decode cX8_digest 79 = .ok (.iconst 0, 1) := by decide +kernel
theorem dX8_digest_80 : decode cX8_digest 80 = .ok (.istore 4, 2) := by decide +kernel
theorem dX8_digest_82 : decode cX8_digest 82 = .ok (.iload 4, 2) := by decide +kernel
theorem dX8_digest_84 : decode cX8_digest 84 = .ok (.iconst 4, 1) := by decide +kernel
theorem dX8_digest_85 : decode cX8_digest 85 = .ok (.if_icmp .ge 27, 3) := by decide +kernel
theorem dX8_digest_88 : decode cX8_digest 88 = .ok (.ldc2_w 334, 3) := by decide +kernel
theorem dX8_digest_91 : decode cX8_digest 91 = .ok (.lload_n 1, 1) := by decide +kernel
theorem dX8_digest_92 : decode cX8_digest 92 = .ok (.lmul, 1) := by decide +kernel
theorem dX8_digest_93 : decode cX8_digest 93 = .ok (.aload_n 0, 1) := by decide +kernel
theorem dX8_digest_94 : decode cX8_digest 94 = .ok (.getfield 33, 3) := by decide +kernel
theorem dX8_digest_97 : decode cX8_digest 97 = .ok (.iload_n 3, 1) := by decide +kernel
theorem dX8_digest_98 : decode cX8_digest 98 = .ok (.iload 4, 2) := by decide +kernel
theorem dX8_digest_100 : decode cX8_digest 100 = .ok (.invokevirtual 222, 3) := by decide +kernel
theorem dX8_digest_103 : decode cX8_digest 103 = .ok (.i2l, 1) := by decide +kernel
theorem dX8_digest_104 : decode cX8_digest 104 = .ok (.ladd, 1) := by decide +kernel
theorem dX8_digest_105 : decode cX8_digest 105 = .ok (.lstore_n 1, 1) := by decide +kernel
theorem dX8_digest_106 : decode cX8_digest 106 = .ok (.iinc 4 1, 3) := by decide +kernel
theorem dX8_digest_109 : decode cX8_digest 109 = .ok (.goto (-27), 3) := by decide +kernel
theorem dX8_digest_112 : decode cX8_digest 112 = .ok (.iinc 3 1, 3) := by decide +kernel
theorem dX8_digest_115 : decode cX8_digest 115 = .ok (.goto (-47), 3) := by decide +kernel
theorem dX8_digest_118 : decode cX8_digest 118 = .ok (.iconst 2, 1) := by decide +kernel
theorem dX8_digest_119 : decode cX8_digest 119 = .ok (.istore_n 3, 1) := by decide +kernel
theorem dX8_digest_120 : decode cX8_digest 120 = .ok (.iload_n 3, 1) := by decide +kernel
theorem dX8_digest_121 : decode cX8_digest 121 = .ok (.bipush 7, 2) := by decide +kernel
theorem dX8_digest_123 : decode cX8_digest 123 = .ok (.if_icmp .gt 22, 3) := by decide +kernel
theorem dX8_digest_126 : decode cX8_digest 126 = .ok (.ldc2_w 334, 3) := by decide +kernel
theorem dX8_digest_129 : decode cX8_digest 129 = .ok (.lload_n 1, 1) := by decide +kernel
theorem dX8_digest_130 : decode cX8_digest 130 = .ok (.lmul, 1) := by decide +kernel
theorem dX8_digest_131 : decode cX8_digest 131 = .ok (.aload_n 0, 1) := by decide +kernel
theorem dX8_digest_132 : decode cX8_digest 132 = .ok (.iload_n 3, 1) := by decide +kernel
theorem dX8_digest_133 : decode cX8_digest 133 = .ok (.invokevirtual 319, 3) := by decide +kernel
theorem dX8_digest_136 : decode cX8_digest 136 = .ok (.i2l, 1) := by decide +kernel
theorem dX8_digest_137 : decode cX8_digest 137 = .ok (.ladd, 1) := by decide +kernel
theorem dX8_digest_138 : decode cX8_digest 138 = .ok (.lstore_n 1, 1) := by decide +kernel
theorem dX8_digest_139 : decode cX8_digest 139 = .ok (.iinc 3 1, 3) := by decide +kernel
theorem dX8_digest_142 : decode cX8_digest 142 = .ok (.goto (-22), 3) := by decide +kernel
theorem dX8_digest_145 : decode cX8_digest 145 = .ok (.ldc2_w 334, 3) := by decide +kernel
theorem dX8_digest_148 : decode cX8_digest 148 = .ok (.lload_n 1, 1) := by decide +kernel
theorem dX8_digest_149 : decode cX8_digest 149 = .ok (.lmul, 1) := by decide +kernel
theorem dX8_digest_150 : decode cX8_digest 150 = .ok (.aload_n 0, 1) := by decide +kernel
theorem dX8_digest_151 : decode cX8_digest 151 = .ok (.getfield 61, 3) := by decide +kernel
theorem dX8_digest_154 : decode cX8_digest 154 = .ok (.getfield 316, 3) := by decide +kernel
theorem dX8_digest_157 : decode cX8_digest 157 = .ok (.i2l, 1) := by decide +kernel
theorem dX8_digest_158 : decode cX8_digest 158 = .ok (.ladd, 1) := by decide +kernel
theorem dX8_digest_159 : decode cX8_digest 159 = .ok (.lstore_n 1, 1) := by decide +kernel
theorem dX8_digest_160 : decode cX8_digest 160 = .ok (.iconst 0, 1) := by decide +kernel
theorem dX8_digest_161 : decode cX8_digest 161 = .ok (.istore_n 3, 1) := by decide +kernel
theorem dX8_digest_162 : decode cX8_digest 162 = .ok (.iload_n 3, 1) := by decide +kernel
theorem dX8_digest_163 : decode cX8_digest 163 = .ok (.iconst 4, 1) := by decide +kernel
theorem dX8_digest_164 : decode cX8_digest 164 = .ok (.if_icmp .ge 16, 3) := by decide +kernel
theorem dX8_digest_167 : decode cX8_digest 167 = .ok (.aload_n 0, 1) := by decide +kernel
theorem dX8_digest_168 : decode cX8_digest 168 = .ok (.lload_n 1, 1) := by decide +kernel
theorem dX8_digest_169 : decode cX8_digest 169 = .ok (.iload_n 3, 1) := by decide +kernel
theorem dX8_digest_170 : decode cX8_digest 170 = .ok (.invokevirtual 339, 3) := by decide +kernel
theorem dX8_digest_173 : decode cX8_digest 173 = .ok (.lstore_n 1, 1) := by decide +kernel
theorem dX8_digest_174 : decode cX8_digest 174 = .ok (.iinc 3 1, 3) := by decide +kernel
theorem dX8_digest_177 : decode cX8_digest 177 = .ok (.goto (-15), 3) := by decide +kernel
theorem dX8_digest_180 : decode cX8_digest 180 = .ok (.lload_n 1, 1) := by decide +kernel
theorem dX8_digest_181 : decode cX8_digest 181 = .ok (.lreturn, 1) := by decide +kernel
theorem dX8_isKind_0 : decode cX8_isKind 0 = .ok (.iload_n 0, 1) := by decide +kernel
theorem dX8_isKind_1 : decode cX8_isKind 1 = .ok (.ifCond .lt 12, 3) := by decide +kernel
theorem dX8_isKind_4 : decode cX8_isKind 4 = .ok (.iload_n 0, 1) := by decide +kernel
theorem dX8_isKind_5 : decode cX8_isKind 5 = .ok (.iconst 2, 1) := by decide +kernel
theorem dX8_isKind_6 : decode cX8_isKind 6 = .ok (.if_icmp .gt 7, 3) := by decide +kernel
theorem dX8_isKind_9 : decode cX8_isKind 9 = .ok (.iconst 1, 1) := by decide +kernel
theorem dX8_isKind_10 : decode cX8_isKind 10 = .ok (.goto 4, 3) := by decide +kernel
theorem dX8_isKind_13 : decode cX8_isKind 13 = .ok (.iconst 0, 1) := by decide +kernel
theorem dX8_isKind_14 : decode cX8_isKind 14 = .ok (.ireturn, 1) := by decide +kernel
theorem dX8_isGroup_0 : decode cX8_isGroup 0 = .ok (.iload_n 0, 1) := by decide +kernel
theorem dX8_isGroup_1 : decode cX8_isGroup 1 = .ok (.ifCond .lt 13, 3) := by decide +kernel
theorem dX8_isGroup_4 : decode cX8_isGroup 4 = .ok (.iload_n 0, 1) := by decide +kernel
theorem dX8_isGroup_5 : decode cX8_isGroup 5 = .ok (.bipush 8, 2) := by decide +kernel
theorem dX8_isGroup_7 : decode cX8_isGroup 7 = .ok (.if_icmp .ge 7, 3) := by decide +kernel
theorem dX8_isGroup_10 : decode cX8_isGroup 10 = .ok (.iconst 1, 1) := by decide +kernel
theorem dX8_isGroup_11 : decode cX8_isGroup 11 = .ok (.goto 4, 3) := by decide +kernel
theorem dX8_isGroup_14 : decode cX8_isGroup 14 = .ok (.iconst 0, 1) := by decide +kernel
theorem dX8_isGroup_15 : decode cX8_isGroup 15 = .ok (.ireturn, 1) := by decide +kernel
theorem dX8_isSheet_0 : decode cX8_isSheet 0 = .ok (.iload_n 0, 1) := by decide +kernel
theorem dX8_isSheet_1 : decode cX8_isSheet 1 = .ok (.ifCond .lt 12, 3) := by decide +kernel
theorem dX8_isSheet_4 : decode cX8_isSheet 4 = .ok (.iload_n 0, 1) := by decide +kernel
theorem dX8_isSheet_5 : decode cX8_isSheet 5 = .ok (.iconst 4, 1) := by decide +kernel
theorem dX8_isSheet_6 : decode cX8_isSheet 6 = .ok (.if_icmp .ge 7, 3) := by decide +kernel
theorem dX8_isSheet_9 : decode cX8_isSheet 9 = .ok (.iconst 1, 1) := by decide +kernel
theorem dX8_isSheet_10 : decode cX8_isSheet 10 = .ok (.goto 4, 3) := by decide +kernel
theorem dX8_isSheet_13 : decode cX8_isSheet 13 = .ok (.iconst 0, 1) := by decide +kernel
theorem dX8_isSheet_14 : decode cX8_isSheet 14 = .ok (.ireturn, 1) := by decide +kernel
theorem dX8_refusalOf_0 : decode cX8_refusalOf 0 = .ok (.aload_n 0, 1) := by decide +kernel
theorem dX8_refusalOf_1 : decode cX8_refusalOf 1 = .ok (.getfield 19, 3) := by decide +kernel
theorem dX8_refusalOf_4 : decode cX8_refusalOf 4 = .ok (.iload_n 1, 1) := by decide +kernel
theorem dX8_refusalOf_5 : decode cX8_refusalOf 5 = .ok (.invokevirtual 87, 3) := by decide +kernel
theorem dX8_refusalOf_8 : decode cX8_refusalOf 8 = .ok (.ifCond .ne 5, 3) := by decide +kernel
theorem dX8_refusalOf_11 : decode cX8_refusalOf 11 = .ok (.iconst (-1), 1) := by decide +kernel
theorem dX8_refusalOf_12 : decode cX8_refusalOf 12 = .ok (.ireturn, 1) := by decide +kernel
theorem dX8_refusalOf_13 : decode cX8_refusalOf 13 = .ok (.aload_n 0, 1) := by decide +kernel
theorem dX8_refusalOf_14 : decode cX8_refusalOf 14 = .ok (.getfield 19, 3) := by decide +kernel
theorem dX8_refusalOf_17 : decode cX8_refusalOf 17 = .ok (.getfield 90, 3) := by decide +kernel
theorem dX8_refusalOf_20 : decode cX8_refusalOf 20 = .ok (.iload_n 1, 1) := by decide +kernel
theorem dX8_refusalOf_21 : decode cX8_refusalOf 21 = .ok (.baload, 1) := by decide +kernel
theorem dX8_refusalOf_22 : decode cX8_refusalOf 22 = .ok (.ifCond .eq 14, 3) := by decide +kernel
theorem dX8_refusalOf_25 : decode cX8_refusalOf 25 = .ok (.aload_n 0, 1) := by decide +kernel
theorem dX8_refusalOf_26 : decode cX8_refusalOf 26 = .ok (.getfield 12, 3) := by decide +kernel
theorem dX8_refusalOf_29 : decode cX8_refusalOf 29 = .ok (.iconst 1, 1) := by decide +kernel
theorem dX8_refusalOf_30 : decode cX8_refusalOf 30 = .ok (.invokevirtual 94, 3) := by decide +kernel
theorem dX8_refusalOf_33 : decode cX8_refusalOf 33 = .ok (.goto 4, 3) := by decide +kernel
theorem dX8_refusalOf_36 : decode cX8_refusalOf 36 = .ok (.iconst 0, 1) := by decide +kernel
theorem dX8_refusalOf_37 : decode cX8_refusalOf 37 = .ok (.ireturn, 1) := by decide +kernel
theorem dX8_barsBetween_0 : decode cX8_barsBetween 0 = .ok (.iconst 0, 1) := by decide +kernel
theorem dX8_barsBetween_1 : decode cX8_barsBetween 1 = .ok (.istore_n 3, 1) := by decide +kernel
theorem dX8_barsBetween_2 : decode cX8_barsBetween 2 = .ok (.aload_n 0, 1) := by decide +kernel
theorem dX8_barsBetween_3 : decode cX8_barsBetween 3 = .ok (.getfield 19, 3) := by decide +kernel
theorem dX8_barsBetween_6 : decode cX8_barsBetween 6 = .ok (.getfield 122, 3) := by decide +kernel
theorem dX8_barsBetween_9 : decode cX8_barsBetween 9 = .ok (.iload_n 1, 1) := by decide +kernel
theorem dX8_barsBetween_10 : decode cX8_barsBetween 10 = .ok (.iaload, 1) := by decide +kernel
theorem dX8_barsBetween_11 : decode cX8_barsBetween 11 = .ok (.aload_n 0, 1) := by decide +kernel
theorem dX8_barsBetween_12 : decode cX8_barsBetween 12 = .ok (.getfield 19, 3) := by decide +kernel
theorem dX8_barsBetween_15 : decode cX8_barsBetween 15 = .ok (.getfield 122, 3) := by decide +kernel
theorem dX8_barsBetween_18 : decode cX8_barsBetween 18 = .ok (.iload_n 2, 1) := by decide +kernel
theorem dX8_barsBetween_19 : decode cX8_barsBetween 19 = .ok (.iaload, 1) := by decide +kernel
theorem dX8_barsBetween_20 : decode cX8_barsBetween 20 = .ok (.if_icmp .ne 7, 3) := by decide +kernel
theorem dX8_barsBetween_23 : decode cX8_barsBetween 23 = .ok (.iload_n 3, 1) := by decide +kernel
theorem dX8_barsBetween_24 : decode cX8_barsBetween 24 = .ok (.iconst 1, 1) := by decide +kernel
theorem dX8_barsBetween_25 : decode cX8_barsBetween 25 = .ok (.ior, 1) := by decide +kernel
theorem dX8_barsBetween_26 : decode cX8_barsBetween 26 = .ok (.istore_n 3, 1) := by decide +kernel
theorem dX8_barsBetween_27 : decode cX8_barsBetween 27 = .ok (.aload_n 0, 1) := by decide +kernel
theorem dX8_barsBetween_28 : decode cX8_barsBetween 28 = .ok (.getfield 19, 3) := by decide +kernel
theorem dX8_barsBetween_31 : decode cX8_barsBetween 31 = .ok (.getfield 342, 3) := by decide +kernel
theorem dX8_barsBetween_34 : decode cX8_barsBetween 34 = .ok (.iload_n 1, 1) := by decide +kernel
theorem dX8_barsBetween_35 : decode cX8_barsBetween 35 = .ok (.iaload, 1) := by decide +kernel
theorem dX8_barsBetween_36 : decode cX8_barsBetween 36 = .ok (.bipush (-9), 2) := by decide +kernel
theorem dX8_barsBetween_38 : decode cX8_barsBetween 38 = .ok (.if_icmp .eq 28, 3) := by decide +kernel
theorem dX8_barsBetween_41 : decode cX8_barsBetween 41 = .ok (.aload_n 0, 1) := by decide +kernel
theorem dX8_barsBetween_42 : decode cX8_barsBetween 42 = .ok (.getfield 19, 3) := by decide +kernel
theorem dX8_barsBetween_45 : decode cX8_barsBetween 45 = .ok (.getfield 342, 3) := by decide +kernel
theorem dX8_barsBetween_48 : decode cX8_barsBetween 48 = .ok (.iload_n 1, 1) := by decide +kernel
theorem dX8_barsBetween_49 : decode cX8_barsBetween 49 = .ok (.iaload, 1) := by decide +kernel
theorem dX8_barsBetween_50 : decode cX8_barsBetween 50 = .ok (.aload_n 0, 1) := by decide +kernel
theorem dX8_barsBetween_51 : decode cX8_barsBetween 51 = .ok (.getfield 19, 3) := by decide +kernel
theorem dX8_barsBetween_54 : decode cX8_barsBetween 54 = .ok (.getfield 342, 3) := by decide +kernel
theorem dX8_barsBetween_57 : decode cX8_barsBetween 57 = .ok (.iload_n 2, 1) := by decide +kernel
theorem dX8_barsBetween_58 : decode cX8_barsBetween 58 = .ok (.iaload, 1) := by decide +kernel
theorem dX8_barsBetween_59 : decode cX8_barsBetween 59 = .ok (.if_icmp .ne 7, 3) := by decide +kernel
theorem dX8_barsBetween_62 : decode cX8_barsBetween 62 = .ok (.iload_n 3, 1) := by decide +kernel
theorem dX8_barsBetween_63 : decode cX8_barsBetween 63 = .ok (.iconst 2, 1) := by decide +kernel
theorem dX8_barsBetween_64 : decode cX8_barsBetween 64 = .ok (.ior, 1) := by decide +kernel
theorem dX8_barsBetween_65 : decode cX8_barsBetween 65 = .ok (.istore_n 3, 1) := by decide +kernel
theorem dX8_barsBetween_66 : decode cX8_barsBetween 66 = .ok (.aload_n 0, 1) := by decide +kernel
theorem dX8_barsBetween_67 : decode cX8_barsBetween 67 = .ok (.getfield 33, 3) := by decide +kernel
theorem dX8_barsBetween_70 : decode cX8_barsBetween 70 = .ok (.getfield 76, 3) := by decide +kernel
theorem dX8_barsBetween_73 : decode cX8_barsBetween 73 = .ok (.ifCond .eq 19, 3) := by decide +kernel
theorem dX8_barsBetween_76 : decode cX8_barsBetween 76 = .ok (.aload_n 0, 1) := by decide +kernel
theorem dX8_barsBetween_77 : decode cX8_barsBetween 77 = .ok (.getfield 33, 3) := by decide +kernel
theorem dX8_barsBetween_80 : decode cX8_barsBetween 80 = .ok (.iload_n 1, 1) := by decide +kernel
theorem dX8_barsBetween_81 : decode cX8_barsBetween 81 = .ok (.iload_n 2, 1) := by decide +kernel
theorem dX8_barsBetween_82 : decode cX8_barsBetween 82 = .ok (.invokevirtual 345, 3) := by decide +kernel
theorem dX8_barsBetween_85 : decode cX8_barsBetween 85 = .ok (.ifCond .eq 7, 3) := by decide +kernel
theorem dX8_barsBetween_88 : decode cX8_barsBetween 88 = .ok (.iload_n 3, 1) := by decide +kernel
theorem dX8_barsBetween_89 : decode cX8_barsBetween 89 = .ok (.iconst 4, 1) := by decide +kernel
theorem dX8_barsBetween_90 : decode cX8_barsBetween 90 = .ok (.ior, 1) := by decide +kernel
theorem dX8_barsBetween_91 : decode cX8_barsBetween 91 = .ok (.istore_n 3, 1) := by decide +kernel
theorem dX8_barsBetween_92 : decode cX8_barsBetween 92 = .ok (.iload_n 3, 1) := by decide +kernel
theorem dX8_barsBetween_93 : decode cX8_barsBetween 93 = .ok (.ireturn, 1) := by decide +kernel
theorem dX8_gatherThosePresent_0 : decode cX8_gatherThosePresent 0 = .ok (.aload_n 0, 1) := by decide +kernel
theorem dX8_gatherThosePresent_1 : decode cX8_gatherThosePresent 1 = .ok (.getfield 40, 3) := by decide +kernel
theorem dX8_gatherThosePresent_4 : decode cX8_gatherThosePresent 4 = .ok (.iconst 0, 1) := by decide +kernel
theorem dX8_gatherThosePresent_5 : decode cX8_gatherThosePresent 5 = .ok (.putfield 348, 3) := by decide +kernel
theorem dX8_gatherThosePresent_8 : decode cX8_gatherThosePresent 8 = .ok (.iconst 0, 1) := by decide +kernel
theorem dX8_gatherThosePresent_9 : decode cX8_gatherThosePresent 9 = .ok (.istore_n 1, 1) := by decide +kernel
theorem dX8_gatherThosePresent_10 : decode cX8_gatherThosePresent 10 = .ok (.iload_n 1, 1) := by decide +kernel
theorem dX8_gatherThosePresent_11 : decode cX8_gatherThosePresent 11 = .ok (.aload_n 0, 1) := by decide +kernel
theorem dX8_gatherThosePresent_12 : decode cX8_gatherThosePresent 12 = .ok (.getfield 19, 3) := by decide +kernel
theorem dX8_gatherThosePresent_15 : decode cX8_gatherThosePresent 15 = .ok (.getfield 112, 3) := by decide +kernel
theorem dX8_gatherThosePresent_18 : decode cX8_gatherThosePresent 18 = .ok (.if_icmp .ge 60, 3) := by decide +kernel
theorem dX8_gatherThosePresent_21 : decode cX8_gatherThosePresent 21 = .ok (.aload_n 0, 1) := by decide +kernel
theorem dX8_gatherThosePresent_22 : decode cX8_gatherThosePresent 22 = .ok (.getfield 19, 3) := by decide +kernel
theorem dX8_gatherThosePresent_25 : decode cX8_gatherThosePresent 25 = .ok (.getfield 115, 3) := by decide +kernel
theorem dX8_gatherThosePresent_28 : decode cX8_gatherThosePresent 28 = .ok (.iload_n 1, 1) := by decide +kernel
theorem dX8_gatherThosePresent_29 : decode cX8_gatherThosePresent 29 = .ok (.iaload, 1) := by decide +kernel
theorem dX8_gatherThosePresent_30 : decode cX8_gatherThosePresent 30 = .ok (.istore_n 2, 1) := by decide +kernel
theorem dX8_gatherThosePresent_31 : decode cX8_gatherThosePresent 31 = .ok (.aload_n 0, 1) := by decide +kernel
theorem dX8_gatherThosePresent_32 : decode cX8_gatherThosePresent 32 = .ok (.getfield 19, 3) := by decide +kernel
theorem dX8_gatherThosePresent_35 : decode cX8_gatherThosePresent 35 = .ok (.getfield 175, 3) := by decide +kernel
theorem dX8_gatherThosePresent_38 : decode cX8_gatherThosePresent 38 = .ok (.iload_n 2, 1) := by decide +kernel
theorem dX8_gatherThosePresent_39 : decode cX8_gatherThosePresent 39 = .ok (.baload, 1) := by decide +kernel
theorem dX8_gatherThosePresent_40 : decode cX8_gatherThosePresent 40 = .ok (.ifCond .ne 32, 3) := by decide +kernel
theorem dX8_gatherThosePresent_43 : decode cX8_gatherThosePresent 43 = .ok (.aload_n 0, 1) := by decide +kernel
theorem dX8_gatherThosePresent_44 : decode cX8_gatherThosePresent 44 = .ok (.getfield 40, 3) := by decide +kernel
theorem dX8_gatherThosePresent_47 : decode cX8_gatherThosePresent 47 = .ok (.getfield 350, 3) := by decide +kernel
theorem dX8_gatherThosePresent_50 : decode cX8_gatherThosePresent 50 = .ok (.aload_n 0, 1) := by decide +kernel
theorem dX8_gatherThosePresent_51 : decode cX8_gatherThosePresent 51 = .ok (.getfield 40, 3) := by decide +kernel
theorem dX8_gatherThosePresent_54 : decode cX8_gatherThosePresent 54 = .ok (.getfield 348, 3) := by decide +kernel
theorem dX8_gatherThosePresent_57 : decode cX8_gatherThosePresent 57 = .ok (.iload_n 2, 1) := by decide +kernel
theorem dX8_gatherThosePresent_58 : decode cX8_gatherThosePresent 58 = .ok (.iastore, 1) := by decide +kernel
theorem dX8_gatherThosePresent_59 : decode cX8_gatherThosePresent 59 = .ok (.aload_n 0, 1) := by decide +kernel
theorem dX8_gatherThosePresent_60 : decode cX8_gatherThosePresent 60 = .ok (.getfield 40, 3) := by decide +kernel
theorem dX8_gatherThosePresent_63 : decode cX8_gatherThosePresent 63 = .ok (.dup, 1) := by decide +kernel
theorem dX8_gatherThosePresent_64 : decode cX8_gatherThosePresent 64 = .ok (.getfield 348, 3) := by decide +kernel
theorem dX8_gatherThosePresent_67 : decode cX8_gatherThosePresent 67 = .ok (.iconst 1, 1) := by decide +kernel
theorem dX8_gatherThosePresent_68 : decode cX8_gatherThosePresent 68 = .ok (.iadd, 1) := by decide +kernel
theorem dX8_gatherThosePresent_69 : decode cX8_gatherThosePresent 69 = .ok (.putfield 348, 3) := by decide +kernel
theorem dX8_gatherThosePresent_72 : decode cX8_gatherThosePresent 72 = .ok (.iinc 1 1, 3) := by decide +kernel
theorem dX8_gatherThosePresent_75 : decode cX8_gatherThosePresent 75 = .ok (.goto (-65), 3) := by decide +kernel
theorem dX8_gatherThosePresent_78 : decode cX8_gatherThosePresent 78 = .ok (.return_, 1) := by decide +kernel
theorem dX8_setCharges_0 : decode cX8_setCharges 0 = .ok (.iconst 0, 1) := by decide +kernel
theorem dX8_setCharges_1 : decode cX8_setCharges 1 = .ok (.istore_n 1, 1) := by decide +kernel
theorem dX8_setCharges_2 : decode cX8_setCharges 2 = .ok (.iload_n 1, 1) := by decide +kernel
theorem dX8_setCharges_3 : decode cX8_setCharges 3 = .ok (.aload_n 0, 1) := by decide +kernel
theorem dX8_setCharges_4 : decode cX8_setCharges 4 = .ok (.getfield 40, 3) := by decide +kernel
theorem dX8_setCharges_7 : decode cX8_setCharges 7 = .ok (.getfield 348, 3) := by decide +kernel
theorem dX8_setCharges_10 : decode cX8_setCharges 10 = .ok (.if_icmp .ge 63, 3) := by decide +kernel
theorem dX8_setCharges_13 : decode cX8_setCharges 13 = .ok (.iload_n 1, 1) := by decide +kernel
theorem dX8_setCharges_14 : decode cX8_setCharges 14 = .ok (.iconst 1, 1) := by decide +kernel
theorem dX8_setCharges_15 : decode cX8_setCharges 15 = .ok (.iadd, 1) := by decide +kernel
theorem dX8_setCharges_16 : decode cX8_setCharges 16 = .ok (.istore_n 2, 1) := by decide +kernel
theorem dX8_setCharges_17 : decode cX8_setCharges 17 = .ok (.iload_n 2, 1) := by decide +kernel
theorem dX8_setCharges_18 : decode cX8_setCharges 18 = .ok (.aload_n 0, 1) := by decide +kernel
theorem dX8_setCharges_19 : decode cX8_setCharges 19 = .ok (.getfield 40, 3) := by decide +kernel
theorem dX8_setCharges_22 : decode cX8_setCharges 22 = .ok (.getfield 348, 3) := by decide +kernel
theorem dX8_setCharges_25 : decode cX8_setCharges 25 = .ok (.if_icmp .ge 42, 3) := by decide +kernel
theorem dX8_setCharges_28 : decode cX8_setCharges 28 = .ok (.aload_n 0, 1) := by decide +kernel
theorem dX8_setCharges_29 : decode cX8_setCharges 29 = .ok (.getfield 40, 3) := by decide +kernel
theorem dX8_setCharges_32 : decode cX8_setCharges 32 = .ok (.getfield 353, 3) := by decide +kernel
theorem dX8_setCharges_35 : decode cX8_setCharges 35 = .ok (.iload_n 1, 1) := by decide +kernel
theorem dX8_setCharges_36 : decode cX8_setCharges 36 = .ok (.aaload, 1) := by decide +kernel
theorem dX8_setCharges_37 : decode cX8_setCharges 37 = .ok (.iload_n 2, 1) := by decide +kernel
theorem dX8_setCharges_38 : decode cX8_setCharges 38 = .ok (.aload_n 0, 1) := by decide +kernel
theorem dX8_setCharges_39 : decode cX8_setCharges 39 = .ok (.aload_n 0, 1) := by decide +kernel
theorem dX8_setCharges_40 : decode cX8_setCharges 40 = .ok (.getfield 40, 3) := by decide +kernel
theorem dX8_setCharges_43 : decode cX8_setCharges 43 = .ok (.getfield 350, 3) := by decide +kernel
theorem dX8_setCharges_46 : decode cX8_setCharges 46 = .ok (.iload_n 1, 1) := by decide +kernel
theorem dX8_setCharges_47 : decode cX8_setCharges 47 = .ok (.iaload, 1) := by decide +kernel
theorem dX8_setCharges_48 : decode cX8_setCharges 48 = .ok (.aload_n 0, 1) := by decide +kernel
theorem dX8_setCharges_49 : decode cX8_setCharges 49 = .ok (.getfield 40, 3) := by decide +kernel
theorem dX8_setCharges_52 : decode cX8_setCharges 52 = .ok (.getfield 350, 3) := by decide +kernel
theorem dX8_setCharges_55 : decode cX8_setCharges 55 = .ok (.iload_n 2, 1) := by decide +kernel
theorem dX8_setCharges_56 : decode cX8_setCharges 56 = .ok (.iaload, 1) := by decide +kernel
theorem dX8_setCharges_57 : decode cX8_setCharges 57 = .ok (.invokevirtual 357, 3) := by decide +kernel
theorem dX8_setCharges_60 : decode cX8_setCharges 60 = .ok (.iastore, 1) := by decide +kernel
theorem dX8_setCharges_61 : decode cX8_setCharges 61 = .ok (.iinc 2 1, 3) := by decide +kernel
theorem dX8_setCharges_64 : decode cX8_setCharges 64 = .ok (.goto (-47), 3) := by decide +kernel
theorem dX8_setCharges_67 : decode cX8_setCharges 67 = .ok (.iinc 1 1, 3) := by decide +kernel
theorem dX8_setCharges_70 : decode cX8_setCharges 70 = .ok (.goto (-68), 3) := by decide +kernel
theorem dX8_setCharges_73 : decode cX8_setCharges 73 = .ok (.return_, 1) := by decide +kernel
theorem dX8_chargeFor_0 : decode cX8_chargeFor 0 = .ok (.aload_n 0, 1) := by decide +kernel
theorem dX8_chargeFor_1 : decode cX8_chargeFor 1 = .ok (.iload_n 1, 1) := by decide +kernel
theorem dX8_chargeFor_2 : decode cX8_chargeFor 2 = .ok (.iload_n 2, 1) := by decide +kernel
theorem dX8_chargeFor_3 : decode cX8_chargeFor 3 = .ok (.invokevirtual 178, 3) := by decide +kernel
theorem dX8_chargeFor_6 : decode cX8_chargeFor 6 = .ok (.ifCond .eq 5, 3) := by decide +kernel
theorem dX8_chargeFor_9 : decode cX8_chargeFor 9 = .ok (.iconst (-1), 1) := by decide +kernel
theorem dX8_chargeFor_10 : decode cX8_chargeFor 10 = .ok (.ireturn, 1) := by decide +kernel
theorem dX8_chargeFor_11 : decode cX8_chargeFor 11 = .ok (.aload_n 0, 1) := by decide +kernel
theorem dX8_chargeFor_12 : decode cX8_chargeFor 12 = .ok (.getfield 19, 3) := by decide +kernel
theorem dX8_chargeFor_15 : decode cX8_chargeFor 15 = .ok (.getfield 125, 3) := by decide +kernel
theorem dX8_chargeFor_18 : decode cX8_chargeFor 18 = .ok (.iload_n 1, 1) := by decide +kernel
theorem dX8_chargeFor_19 : decode cX8_chargeFor 19 = .ok (.iaload, 1) := by decide +kernel
theorem dX8_chargeFor_20 : decode cX8_chargeFor 20 = .ok (.aload_n 0, 1) := by decide +kernel
theorem dX8_chargeFor_21 : decode cX8_chargeFor 21 = .ok (.getfield 19, 3) := by decide +kernel
theorem dX8_chargeFor_24 : decode cX8_chargeFor 24 = .ok (.getfield 125, 3) := by decide +kernel
theorem dX8_chargeFor_27 : decode cX8_chargeFor 27 = .ok (.iload_n 2, 1) := by decide +kernel
theorem dX8_chargeFor_28 : decode cX8_chargeFor 28 = .ok (.iaload, 1) := by decide +kernel
theorem dX8_chargeFor_29 : decode cX8_chargeFor 29 = .ok (.isub, 1) := by decide +kernel
theorem dX8_chargeFor_30 : decode cX8_chargeFor 30 = .ok (.invokestatic 360, 3) := by decide +kernel
theorem dX8_chargeFor_33 : decode cX8_chargeFor 33 = .ok (.istore_n 3, 1) := by decide +kernel
theorem dX8_chargeFor_34 : decode cX8_chargeFor 34 = .ok (.aload_n 0, 1) := by decide +kernel
theorem dX8_chargeFor_35 : decode cX8_chargeFor 35 = .ok (.getfield 26, 3) := by decide +kernel
theorem dX8_chargeFor_38 : decode cX8_chargeFor 38 = .ok (.iload_n 3, 1) := by decide +kernel
theorem dX8_chargeFor_39 : decode cX8_chargeFor 39 = .ok (.invokevirtual 162, 3) := by decide +kernel
theorem dX8_chargeFor_42 : decode cX8_chargeFor 42 = .ok (.aload_n 0, 1) := by decide +kernel
theorem dX8_chargeFor_43 : decode cX8_chargeFor 43 = .ok (.getfield 19, 3) := by decide +kernel
theorem dX8_chargeFor_46 : decode cX8_chargeFor 46 = .ok (.getfield 365, 3) := by decide +kernel
theorem dX8_chargeFor_49 : decode cX8_chargeFor 49 = .ok (.iload_n 2, 1) := by decide +kernel
theorem dX8_chargeFor_50 : decode cX8_chargeFor 50 = .ok (.iaload, 1) := by decide +kernel
theorem dX8_chargeFor_51 : decode cX8_chargeFor 51 = .ok (.iadd, 1) := by decide +kernel
theorem dX8_chargeFor_52 : decode cX8_chargeFor 52 = .ok (.aload_n 0, 1) := by decide +kernel
theorem dX8_chargeFor_53 : decode cX8_chargeFor 53 = .ok (.getfield 19, 3) := by decide +kernel
theorem dX8_chargeFor_56 : decode cX8_chargeFor 56 = .ok (.getfield 365, 3) := by decide +kernel
theorem dX8_chargeFor_59 : decode cX8_chargeFor 59 = .ok (.iload_n 1, 1) := by decide +kernel
theorem dX8_chargeFor_60 : decode cX8_chargeFor 60 = .ok (.iaload, 1) := by decide +kernel
theorem dX8_chargeFor_61 : decode cX8_chargeFor 61 = .ok (.isub, 1) := by decide +kernel
theorem dX8_chargeFor_62 : decode cX8_chargeFor 62 = .ok (.ireturn, 1) := by decide +kernel
theorem dX8_enterDay_0 : decode cX8_enterDay 0 = .ok (.iconst 0, 1) := by decide +kernel
theorem dX8_enterDay_1 : decode cX8_enterDay 1 = .ok (.istore_n 1, 1) := by decide +kernel
theorem dX8_enterDay_2 : decode cX8_enterDay 2 = .ok (.aload_n 0, 1) := by decide +kernel
theorem dX8_enterDay_3 : decode cX8_enterDay 3 = .ok (.getfield 33, 3) := by decide +kernel
theorem dX8_enterDay_6 : decode cX8_enterDay 6 = .ok (.iconst 0, 1) := by decide +kernel
theorem dX8_enterDay_7 : decode cX8_enterDay 7 = .ok (.putfield 223, 3) := by decide +kernel
theorem dX8_enterDay_10 : decode cX8_enterDay 10 = .ok (.iconst 0, 1) := by decide +kernel
theorem dX8_enterDay_11 : decode cX8_enterDay 11 = .ok (.istore_n 2, 1) := by decide +kernel
theorem dX8_enterDay_12 : decode cX8_enterDay 12 = .ok (.iload_n 2, 1) := by decide +kernel
theorem dX8_enterDay_13 : decode cX8_enterDay 13 = .ok (.aload_n 0, 1) := by decide +kernel
theorem dX8_enterDay_14 : decode cX8_enterDay 14 = .ok (.getfield 40, 3) := by decide +kernel
theorem dX8_enterDay_17 : decode cX8_enterDay 17 = .ok (.getfield 348, 3) := by decide +kernel
theorem dX8_enterDay_20 : decode cX8_enterDay 20 = .ok (.if_icmp .ge 84, 3) := by decide +kernel
theorem dX8_enterDay_23 : decode cX8_enterDay 23 = .ok (.aload_n 0, 1) := by decide +kernel
theorem dX8_enterDay_24 : decode cX8_enterDay 24 = .ok (.getfield 40, 3) := by decide +kernel
theorem dX8_enterDay_27 : decode cX8_enterDay 27 = .ok (.getfield 368, 3) := by decide +kernel
theorem dX8_enterDay_30 : decode cX8_enterDay 30 = .ok (.iload_n 2, 1) := by decide +kernel
theorem dX8_enterDay_31 : decode cX8_enterDay 31 = .ok (.iaload, 1) := by decide +kernel
theorem dX8_enterDay_32 : decode cX8_enterDay 32 = .ok (.istore_n 3, 1) := by decide +kernel
theorem dX8_enterDay_33 : decode cX8_enterDay 33 = .ok (.iload_n 3, 1) := by decide +kernel
theorem dX8_enterDay_34 : decode cX8_enterDay 34 = .ok (.bipush (-9), 2) := by decide +kernel
theorem dX8_enterDay_36 : decode cX8_enterDay 36 = .ok (.if_icmp .ne 29, 3) := by decide +kernel
theorem dX8_enterDay_39 : decode cX8_enterDay 39 = .ok (.aload_n 0, 1) := by decide +kernel
theorem dX8_enterDay_40 : decode cX8_enterDay 40 = .ok (.getfield 33, 3) := by decide +kernel
theorem dX8_enterDay_43 : decode cX8_enterDay 43 = .ok (.dup, 1) := by decide +kernel
theorem dX8_enterDay_44 : decode cX8_enterDay 44 = .ok (.getfield 223, 3) := by decide +kernel
theorem dX8_enterDay_47 : decode cX8_enterDay 47 = .ok (.iconst 1, 1) := by decide +kernel
theorem dX8_enterDay_48 : decode cX8_enterDay 48 = .ok (.aload_n 0, 1) := by decide +kernel
theorem dX8_enterDay_49 : decode cX8_enterDay 49 = .ok (.getfield 40, 3) := by decide +kernel
theorem dX8_enterDay_52 : decode cX8_enterDay 52 = .ok (.getfield 350, 3) := by decide +kernel
theorem dX8_enterDay_55 : decode cX8_enterDay 55 = .ok (.iload_n 2, 1) := by decide +kernel
theorem dX8_enterDay_56 : decode cX8_enterDay 56 = .ok (.iaload, 1) := by decide +kernel
theorem dX8_enterDay_57 : decode cX8_enterDay 57 = .ok (.ishl, 1) := by decide +kernel
theorem dX8_enterDay_58 : decode cX8_enterDay 58 = .ok (.ior, 1) := by decide +kernel
theorem dX8_enterDay_59 : decode cX8_enterDay 59 = .ok (.putfield 223, 3) := by decide +kernel
theorem dX8_enterDay_62 : decode cX8_enterDay 62 = .ok (.goto 36, 3) := by decide +kernel
theorem dX8_enterDay_65 : decode cX8_enterDay 65 = .ok (.iload_n 3, 1) := by decide +kernel
theorem dX8_enterDay_66 : decode cX8_enterDay 66 = .ok (.iload_n 2, 1) := by decide +kernel
theorem dX8_enterDay_67 : decode cX8_enterDay 67 = .ok (.if_icmp .le 31, 3) := by decide +kernel
theorem dX8_enterDay_70 : decode cX8_enterDay 70 = .ok (.aload_n 0, 1) := by decide +kernel
theorem dX8_enterDay_71 : decode cX8_enterDay 71 = .ok (.getfield 33, 3) := by decide +kernel
theorem dX8_enterDay_74 : decode cX8_enterDay 74 = .ok (.aload_n 0, 1) := by decide +kernel
theorem dX8_enterDay_75 : decode cX8_enterDay 75 = .ok (.getfield 40, 3) := by decide +kernel
theorem dX8_enterDay_78 : decode cX8_enterDay 78 = .ok (.getfield 350, 3) := by decide +kernel
theorem dX8_enterDay_81 : decode cX8_enterDay 81 = .ok (.iload_n 2, 1) := by decide +kernel
theorem dX8_enterDay_82 : decode cX8_enterDay 82 = .ok (.iaload, 1) := by decide +kernel
theorem dX8_enterDay_83 : decode cX8_enterDay 83 = .ok (.aload_n 0, 1) := by decide +kernel
theorem dX8_enterDay_84 : decode cX8_enterDay 84 = .ok (.getfield 40, 3) := by decide +kernel
theorem dX8_enterDay_87 : decode cX8_enterDay 87 = .ok (.getfield 350, 3) := by decide +kernel
theorem dX8_enterDay_90 : decode cX8_enterDay 90 = .ok (.iload_n 3, 1) := by decide +kernel
theorem dX8_enterDay_91 : decode cX8_enterDay 91 = .ok (.iaload, 1) := by decide +kernel
theorem dX8_enterDay_92 : decode cX8_enterDay 92 = .ok (.invokevirtual 371, 3) := by decide +kernel
theorem dX8_enterDay_95 : decode cX8_enterDay 95 = .ok (.iinc 1 1, 3) := by decide +kernel
theorem dX8_enterDay_98 : decode cX8_enterDay 98 = .ok (.iinc 2 1, 3) := by decide +kernel
theorem dX8_enterDay_101 : decode cX8_enterDay 101 = .ok (.goto (-89), 3) := by decide +kernel
theorem dX8_enterDay_104 : decode cX8_enterDay 104 = .ok (.iconst 0, 1) := by decide +kernel
theorem dX8_enterDay_105 : decode cX8_enterDay 105 = .ok (.istore_n 2, 1) := by decide +kernel
theorem dX8_enterDay_106 : decode cX8_enterDay 106 = .ok (.iload_n 2, 1) := by decide +kernel
theorem dX8_enterDay_107 : decode cX8_enterDay 107 = .ok (.aload_n 0, 1) := by decide +kernel
theorem dX8_enterDay_108 : decode cX8_enterDay 108 = .ok (.getfield 19, 3) := by decide +kernel
theorem dX8_enterDay_111 : decode cX8_enterDay 111 = .ok (.getfield 112, 3) := by decide +kernel
theorem dX8_enterDay_114 : decode cX8_enterDay 114 = .ok (.if_icmp .ge 44, 3) := by decide +kernel
theorem dX8_enterDay_117 : decode cX8_enterDay 117 = .ok (.aload_n 0, 1) := by decide +kernel
theorem dX8_enterDay_118 : decode cX8_enterDay 118 = .ok (.getfield 19, 3) := by decide +kernel
theorem dX8_enterDay_121 : decode cX8_enterDay 121 = .ok (.getfield 115, 3) := by decide +kernel
theorem dX8_enterDay_124 : decode cX8_enterDay 124 = .ok (.iload_n 2, 1) := by decide +kernel
theorem dX8_enterDay_125 : decode cX8_enterDay 125 = .ok (.iaload, 1) := by decide +kernel
theorem dX8_enterDay_126 : decode cX8_enterDay 126 = .ok (.istore_n 3, 1) := by decide +kernel
theorem dX8_enterDay_127 : decode cX8_enterDay 127 = .ok (.aload_n 0, 1) := by decide +kernel
theorem dX8_enterDay_128 : decode cX8_enterDay 128 = .ok (.getfield 19, 3) := by decide +kernel
theorem dX8_enterDay_131 : decode cX8_enterDay 131 = .ok (.getfield 175, 3) := by decide +kernel
theorem dX8_enterDay_134 : decode cX8_enterDay 134 = .ok (.iload_n 3, 1) := by decide +kernel
theorem dX8_enterDay_135 : decode cX8_enterDay 135 = .ok (.baload, 1) := by decide +kernel
theorem dX8_enterDay_136 : decode cX8_enterDay 136 = .ok (.ifCond .eq 16, 3) := by decide +kernel
theorem dX8_enterDay_139 : decode cX8_enterDay 139 = .ok (.aload_n 0, 1) := by decide +kernel
theorem dX8_enterDay_140 : decode cX8_enterDay 140 = .ok (.getfield 19, 3) := by decide +kernel
theorem dX8_enterDay_143 : decode cX8_enterDay 143 = .ok (.getfield 216, 3) := by decide +kernel
theorem dX8_enterDay_146 : decode cX8_enterDay 146 = .ok (.iload_n 3, 1) := by decide +kernel
theorem dX8_enterDay_147 : decode cX8_enterDay 147 = .ok (.dup2, 1) := by decide +kernel
theorem dX8_enterDay_148 : decode cX8_enterDay 148 = .ok (.iaload, 1) := by decide +kernel
theorem dX8_enterDay_149 : decode cX8_enterDay 149 = .ok (.iconst 1, 1) := by decide +kernel
theorem dX8_enterDay_150 : decode cX8_enterDay 150 = .ok (.iadd, 1) := by decide +kernel
theorem dX8_enterDay_151 : decode cX8_enterDay 151 = .ok (.iastore, 1) := by decide +kernel
theorem dX8_enterDay_152 : decode cX8_enterDay 152 = .ok (.iinc 2 1, 3) := by decide +kernel
theorem dX8_enterDay_155 : decode cX8_enterDay 155 = .ok (.goto (-49), 3) := by decide +kernel
theorem dX8_enterDay_158 : decode cX8_enterDay 158 = .ok (.aload_n 0, 1) := by decide +kernel
theorem dX8_enterDay_159 : decode cX8_enterDay 159 = .ok (.getfield 33, 3) := by decide +kernel
theorem dX8_enterDay_162 : decode cX8_enterDay 162 = .ok (.dup, 1) := by decide +kernel
theorem dX8_enterDay_163 : decode cX8_enterDay 163 = .ok (.getfield 184, 3) := by decide +kernel
theorem dX8_enterDay_166 : decode cX8_enterDay 166 = .ok (.iconst 1, 1) := by decide +kernel
theorem dX8_enterDay_167 : decode cX8_enterDay 167 = .ok (.iadd, 1) := by decide +kernel
theorem dX8_enterDay_168 : decode cX8_enterDay 168 = .ok (.putfield 184, 3) := by decide +kernel
theorem dX8_enterDay_171 : decode cX8_enterDay 171 = .ok (.iload_n 1, 1) := by decide +kernel
theorem dX8_enterDay_172 : decode cX8_enterDay 172 = .ok (.ireturn, 1) := by decide +kernel
theorem dX8_moveByCustom_0 : decode cX8_moveByCustom 0 = .ok (.aload_n 0, 1) := by decide +kernel
theorem dX8_moveByCustom_1 : decode cX8_moveByCustom 1 = .ok (.getfield 47, 3) := by decide +kernel
theorem dX8_moveByCustom_4 : decode cX8_moveByCustom 4 = .ok (.aload_n 0, 1) := by decide +kernel
theorem dX8_moveByCustom_5 : decode cX8_moveByCustom 5 = .ok (.getfield 19, 3) := by decide +kernel
theorem dX8_moveByCustom_8 : decode cX8_moveByCustom 8 = .ok (.getfield 125, 3) := by decide +kernel
theorem dX8_moveByCustom_11 : decode cX8_moveByCustom 11 = .ok (.iload_n 1, 1) := by decide +kernel
theorem dX8_moveByCustom_12 : decode cX8_moveByCustom 12 = .ok (.iaload, 1) := by decide +kernel
theorem dX8_moveByCustom_13 : decode cX8_moveByCustom 13 = .ok (.aload_n 0, 1) := by decide +kernel
theorem dX8_moveByCustom_14 : decode cX8_moveByCustom 14 = .ok (.getfield 19, 3) := by decide +kernel
theorem dX8_moveByCustom_17 : decode cX8_moveByCustom 17 = .ok (.getfield 216, 3) := by decide +kernel
theorem dX8_moveByCustom_20 : decode cX8_moveByCustom 20 = .ok (.iload_n 1, 1) := by decide +kernel
theorem dX8_moveByCustom_21 : decode cX8_moveByCustom 21 = .ok (.iaload, 1) := by decide +kernel
theorem dX8_moveByCustom_22 : decode cX8_moveByCustom 22 = .ok (.isub, 1) := by decide +kernel
theorem dX8_moveByCustom_23 : decode cX8_moveByCustom 23 = .ok (.aload_n 0, 1) := by decide +kernel
theorem dX8_moveByCustom_24 : decode cX8_moveByCustom 24 = .ok (.getfield 54, 3) := by decide +kernel
theorem dX8_moveByCustom_27 : decode cX8_moveByCustom 27 = .ok (.getfield 276, 3) := by decide +kernel
theorem dX8_moveByCustom_30 : decode cX8_moveByCustom 30 = .ok (.invokevirtual 279, 3) := by decide +kernel
theorem dX8_moveByCustom_33 : decode cX8_moveByCustom 33 = .ok (.istore_n 2, 1) := by decide +kernel
theorem dX8_moveByCustom_34 : decode cX8_moveByCustom 34 = .ok (.aload_n 0, 1) := by decide +kernel
theorem dX8_moveByCustom_35 : decode cX8_moveByCustom 35 = .ok (.getfield 47, 3) := by decide +kernel
theorem dX8_moveByCustom_38 : decode cX8_moveByCustom 38 = .ok (.iload_n 2, 1) := by decide +kernel
theorem dX8_moveByCustom_39 : decode cX8_moveByCustom 39 = .ok (.aload_n 0, 1) := by decide +kernel
theorem dX8_moveByCustom_40 : decode cX8_moveByCustom 40 = .ok (.getfield 19, 3) := by decide +kernel
theorem dX8_moveByCustom_43 : decode cX8_moveByCustom 43 = .ok (.getfield 282, 3) := by decide +kernel
theorem dX8_moveByCustom_46 : decode cX8_moveByCustom 46 = .ok (.iload_n 1, 1) := by decide +kernel
theorem dX8_moveByCustom_47 : decode cX8_moveByCustom 47 = .ok (.iaload, 1) := by decide +kernel
theorem dX8_moveByCustom_48 : decode cX8_moveByCustom 48 = .ok (.invokevirtual 285, 3) := by decide +kernel
theorem dX8_moveByCustom_51 : decode cX8_moveByCustom 51 = .ok (.istore_n 3, 1) := by decide +kernel
theorem dX8_moveByCustom_52 : decode cX8_moveByCustom 52 = .ok (.aload_n 0, 1) := by decide +kernel
theorem dX8_moveByCustom_53 : decode cX8_moveByCustom 53 = .ok (.getfield 54, 3) := by decide +kernel
theorem dX8_moveByCustom_56 : decode cX8_moveByCustom 56 = .ok (.getfield 267, 3) := by decide +kernel
theorem dX8_moveByCustom_59 : decode cX8_moveByCustom 59 = .ok (.iload_n 1, 1) := by decide +kernel
theorem dX8_moveByCustom_60 : decode cX8_moveByCustom 60 = .ok (.iload_n 2, 1) := by decide +kernel
theorem dX8_moveByCustom_61 : decode cX8_moveByCustom 61 = .ok (.iastore, 1) := by decide +kernel
theorem dX8_moveByCustom_62 : decode cX8_moveByCustom 62 = .ok (.aload_n 0, 1) := by decide +kernel
theorem dX8_moveByCustom_63 : decode cX8_moveByCustom 63 = .ok (.getfield 54, 3) := by decide +kernel
theorem dX8_moveByCustom_66 : decode cX8_moveByCustom 66 = .ok (.iload_n 1, 1) := by decide +kernel
theorem dX8_moveByCustom_67 : decode cX8_moveByCustom 67 = .ok (.iload_n 3, 1) := by decide +kernel
theorem dX8_moveByCustom_68 : decode cX8_moveByCustom 68 = .ok (.invokevirtual 288, 3) := by decide +kernel
theorem dX8_moveByCustom_71 : decode cX8_moveByCustom 71 = .ok (.iload_n 3, 1) := by decide +kernel
theorem dX8_moveByCustom_72 : decode cX8_moveByCustom 72 = .ok (.aload_n 0, 1) := by decide +kernel
theorem dX8_moveByCustom_73 : decode cX8_moveByCustom 73 = .ok (.getfield 47, 3) := by decide +kernel
theorem dX8_moveByCustom_76 : decode cX8_moveByCustom 76 = .ok (.iload_n 2, 1) := by decide +kernel
theorem dX8_moveByCustom_77 : decode cX8_moveByCustom 77 = .ok (.iconst 0, 1) := by decide +kernel
theorem dX8_moveByCustom_78 : decode cX8_moveByCustom 78 = .ok (.invokevirtual 285, 3) := by decide +kernel
theorem dX8_moveByCustom_81 : decode cX8_moveByCustom 81 = .ok (.isub, 1) := by decide +kernel
theorem dX8_moveByCustom_82 : decode cX8_moveByCustom 82 = .ok (.istore 4, 2) := by decide +kernel
theorem dX8_moveByCustom_84 : decode cX8_moveByCustom 84 = .ok (.aload_n 0, 1) := by decide +kernel
theorem dX8_moveByCustom_85 : decode cX8_moveByCustom 85 = .ok (.getfield 19, 3) := by decide +kernel
theorem dX8_moveByCustom_88 : decode cX8_moveByCustom 88 = .ok (.getfield 282, 3) := by decide +kernel
theorem dX8_moveByCustom_91 : decode cX8_moveByCustom 91 = .ok (.iload_n 1, 1) := by decide +kernel
theorem dX8_moveByCustom_92 : decode cX8_moveByCustom 92 = .ok (.iaload, 1) := by decide +kernel
theorem dX8_moveByCustom_93 : decode cX8_moveByCustom 93 = .ok (.iconst 1, 1) := by decide +kernel
theorem dX8_moveByCustom_94 : decode cX8_moveByCustom 94 = .ok (.if_icmp .ne 24, 3) := by decide +kernel
theorem dX8_moveByCustom_97 : decode cX8_moveByCustom 97 = .ok (.iload 4, 2) := by decide +kernel
theorem dX8_moveByCustom_99 : decode cX8_moveByCustom 99 = .ok (.ifCond .le 19, 3) := by decide +kernel
theorem dX8_moveByCustom_102 : decode cX8_moveByCustom 102 = .ok (.aload_n 0, 1) := by decide +kernel
theorem dX8_moveByCustom_103 : decode cX8_moveByCustom 103 = .ok (.getfield 19, 3) := by decide +kernel
theorem dX8_moveByCustom_106 : decode cX8_moveByCustom 106 = .ok (.getfield 119, 3) := by decide +kernel
theorem dX8_moveByCustom_109 : decode cX8_moveByCustom 109 = .ok (.iload_n 1, 1) := by decide +kernel
theorem dX8_moveByCustom_110 : decode cX8_moveByCustom 110 = .ok (.dup2, 1) := by decide +kernel
theorem dX8_moveByCustom_111 : decode cX8_moveByCustom 111 = .ok (.iaload, 1) := by decide +kernel
theorem dX8_moveByCustom_112 : decode cX8_moveByCustom 112 = .ok (.iconst 1, 1) := by decide +kernel
theorem dX8_moveByCustom_113 : decode cX8_moveByCustom 113 = .ok (.iadd, 1) := by decide +kernel
theorem dX8_moveByCustom_114 : decode cX8_moveByCustom 114 = .ok (.iastore, 1) := by decide +kernel
theorem dX8_moveByCustom_115 : decode cX8_moveByCustom 115 = .ok (.goto 30, 3) := by decide +kernel
theorem dX8_moveByCustom_118 : decode cX8_moveByCustom 118 = .ok (.aload_n 0, 1) := by decide +kernel
theorem dX8_moveByCustom_119 : decode cX8_moveByCustom 119 = .ok (.getfield 19, 3) := by decide +kernel
theorem dX8_moveByCustom_122 : decode cX8_moveByCustom 122 = .ok (.getfield 282, 3) := by decide +kernel
theorem dX8_moveByCustom_125 : decode cX8_moveByCustom 125 = .ok (.iload_n 1, 1) := by decide +kernel
theorem dX8_moveByCustom_126 : decode cX8_moveByCustom 126 = .ok (.iaload, 1) := by decide +kernel
theorem dX8_moveByCustom_127 : decode cX8_moveByCustom 127 = .ok (.iconst 2, 1) := by decide +kernel
theorem dX8_moveByCustom_128 : decode cX8_moveByCustom 128 = .ok (.if_icmp .ne 17, 3) := by decide +kernel
theorem dX8_moveByCustom_131 : decode cX8_moveByCustom 131 = .ok (.aload_n 0, 1) := by decide +kernel
theorem dX8_moveByCustom_132 : decode cX8_moveByCustom 132 = .ok (.getfield 19, 3) := by decide +kernel
theorem dX8_moveByCustom_135 : decode cX8_moveByCustom 135 = .ok (.getfield 119, 3) := by decide +kernel
theorem dX8_moveByCustom_138 : decode cX8_moveByCustom 138 = .ok (.iload_n 1, 1) := by decide +kernel
theorem dX8_moveByCustom_139 : decode cX8_moveByCustom 139 = .ok (.dup2, 1) := by decide +kernel
theorem dX8_moveByCustom_140 : decode cX8_moveByCustom 140 = .ok (.iaload, 1) := by decide +kernel
theorem dX8_moveByCustom_141 : decode cX8_moveByCustom 141 = .ok (.iload 4, 2) := by decide +kernel
theorem dX8_moveByCustom_143 : decode cX8_moveByCustom 143 = .ok (.iadd, 1) := by decide +kernel
theorem dX8_moveByCustom_144 : decode cX8_moveByCustom 144 = .ok (.iastore, 1) := by decide +kernel
theorem dX8_moveByCustom_145 : decode cX8_moveByCustom 145 = .ok (.return_, 1) := by decide +kernel
theorem dX8_scoreWithout_0 : decode cX8_scoreWithout 0 = .ok (.aload_n 0, 1) := by decide +kernel
theorem dX8_scoreWithout_1 : decode cX8_scoreWithout 1 = .ok (.getfield 19, 3) := by decide +kernel
theorem dX8_scoreWithout_4 : decode cX8_scoreWithout 4 = .ok (.getfield 125, 3) := by decide +kernel
theorem dX8_scoreWithout_7 : decode cX8_scoreWithout 7 = .ok (.iload_n 1, 1) := by decide +kernel
theorem dX8_scoreWithout_8 : decode cX8_scoreWithout 8 = .ok (.iaload, 1) := by decide +kernel
theorem dX8_scoreWithout_9 : decode cX8_scoreWithout 9 = .ok (.aload_n 0, 1) := by decide +kernel
theorem dX8_scoreWithout_10 : decode cX8_scoreWithout 10 = .ok (.getfield 19, 3) := by decide +kernel
theorem dX8_scoreWithout_13 : decode cX8_scoreWithout 13 = .ok (.getfield 216, 3) := by decide +kernel
theorem dX8_scoreWithout_16 : decode cX8_scoreWithout 16 = .ok (.iload_n 1, 1) := by decide +kernel
theorem dX8_scoreWithout_17 : decode cX8_scoreWithout 17 = .ok (.iaload, 1) := by decide +kernel
theorem dX8_scoreWithout_18 : decode cX8_scoreWithout 18 = .ok (.isub, 1) := by decide +kernel
theorem dX8_scoreWithout_19 : decode cX8_scoreWithout 19 = .ok (.istore_n 3, 1) := by decide +kernel
theorem dX8_scoreWithout_20 : decode cX8_scoreWithout 20 = .ok (.iload_n 1, 1) := by decide +kernel
theorem dX8_scoreWithout_21 : decode cX8_scoreWithout 21 = .ok (.aload_n 0, 1) := by decide +kernel
theorem dX8_scoreWithout_22 : decode cX8_scoreWithout 22 = .ok (.getfield 33, 3) := by decide +kernel
theorem dX8_scoreWithout_25 : decode cX8_scoreWithout 25 = .ok (.getfield 207, 3) := by decide +kernel
theorem dX8_scoreWithout_28 : decode cX8_scoreWithout 28 = .ok (.iload_n 2, 1) := by decide +kernel
theorem dX8_scoreWithout_29 : decode cX8_scoreWithout 29 = .ok (.iaload, 1) := by decide +kernel
theorem dX8_scoreWithout_30 : decode cX8_scoreWithout 30 = .ok (.if_icmp .ne 7, 3) := by decide +kernel
theorem dX8_scoreWithout_33 : decode cX8_scoreWithout 33 = .ok (.iload_n 3, 1) := by decide +kernel
theorem dX8_scoreWithout_34 : decode cX8_scoreWithout 34 = .ok (.iconst 1, 1) := by decide +kernel
theorem dX8_scoreWithout_35 : decode cX8_scoreWithout 35 = .ok (.isub, 1) := by decide +kernel
theorem dX8_scoreWithout_36 : decode cX8_scoreWithout 36 = .ok (.ireturn, 1) := by decide +kernel
theorem dX8_scoreWithout_37 : decode cX8_scoreWithout 37 = .ok (.iload_n 1, 1) := by decide +kernel
theorem dX8_scoreWithout_38 : decode cX8_scoreWithout 38 = .ok (.aload_n 0, 1) := by decide +kernel
theorem dX8_scoreWithout_39 : decode cX8_scoreWithout 39 = .ok (.getfield 33, 3) := by decide +kernel
theorem dX8_scoreWithout_42 : decode cX8_scoreWithout 42 = .ok (.iload_n 2, 1) := by decide +kernel
theorem dX8_scoreWithout_43 : decode cX8_scoreWithout 43 = .ok (.invokevirtual 219, 3) := by decide +kernel
theorem dX8_scoreWithout_46 : decode cX8_scoreWithout 46 = .ok (.if_icmp .ne 9, 3) := by decide +kernel
theorem dX8_scoreWithout_49 : decode cX8_scoreWithout 49 = .ok (.iload_n 3, 1) := by decide +kernel
theorem dX8_scoreWithout_50 : decode cX8_scoreWithout 50 = .ok (.iconst 1, 1) := by decide +kernel
theorem dX8_scoreWithout_51 : decode cX8_scoreWithout 51 = .ok (.iadd, 1) := by decide +kernel
theorem dX8_scoreWithout_52 : decode cX8_scoreWithout 52 = .ok (.goto 4, 3) := by decide +kernel
theorem dX8_scoreWithout_55 : decode cX8_scoreWithout 55 = .ok (.iload_n 3, 1) := by decide +kernel
theorem dX8_scoreWithout_56 : decode cX8_scoreWithout 56 = .ok (.ireturn, 1) := by decide +kernel
theorem dX8_crownIfAlone_0 : decode cX8_crownIfAlone 0 = .ok (.aload_n 0, 1) := by decide +kernel
theorem dX8_crownIfAlone_1 : decode cX8_crownIfAlone 1 = .ok (.getfield 61, 3) := by decide +kernel
theorem dX8_crownIfAlone_4 : decode cX8_crownIfAlone 4 = .ok (.getfield 306, 3) := by decide +kernel
theorem dX8_crownIfAlone_7 : decode cX8_crownIfAlone 7 = .ok (.iconst 1, 1) := by decide +kernel
theorem dX8_crownIfAlone_8 : decode cX8_crownIfAlone 8 = .ok (.if_icmp .ne 38, 3) := by decide +kernel
theorem dX8_crownIfAlone_11 : decode cX8_crownIfAlone 11 = .ok (.aload_n 0, 1) := by decide +kernel
theorem dX8_crownIfAlone_12 : decode cX8_crownIfAlone 12 = .ok (.getfield 61, 3) := by decide +kernel
theorem dX8_crownIfAlone_15 : decode cX8_crownIfAlone 15 = .ok (.aload_n 0, 1) := by decide +kernel
theorem dX8_crownIfAlone_16 : decode cX8_crownIfAlone 16 = .ok (.getfield 61, 3) := by decide +kernel
theorem dX8_crownIfAlone_19 : decode cX8_crownIfAlone 19 = .ok (.getfield 309, 3) := by decide +kernel
theorem dX8_crownIfAlone_22 : decode cX8_crownIfAlone 22 = .ok (.iconst 0, 1) := by decide +kernel
theorem dX8_crownIfAlone_23 : decode cX8_crownIfAlone 23 = .ok (.iaload, 1) := by decide +kernel
theorem dX8_crownIfAlone_24 : decode cX8_crownIfAlone 24 = .ok (.putfield 316, 3) := by decide +kernel
theorem dX8_crownIfAlone_27 : decode cX8_crownIfAlone 27 = .ok (.aload_n 0, 1) := by decide +kernel
theorem dX8_crownIfAlone_28 : decode cX8_crownIfAlone 28 = .ok (.getfield 19, 3) := by decide +kernel
theorem dX8_crownIfAlone_31 : decode cX8_crownIfAlone 31 = .ok (.getfield 374, 3) := by decide +kernel
theorem dX8_crownIfAlone_34 : decode cX8_crownIfAlone 34 = .ok (.aload_n 0, 1) := by decide +kernel
theorem dX8_crownIfAlone_35 : decode cX8_crownIfAlone 35 = .ok (.getfield 61, 3) := by decide +kernel
theorem dX8_crownIfAlone_38 : decode cX8_crownIfAlone 38 = .ok (.getfield 316, 3) := by decide +kernel
theorem dX8_crownIfAlone_41 : decode cX8_crownIfAlone 41 = .ok (.dup2, 1) := by decide +kernel
theorem dX8_crownIfAlone_42 : decode cX8_crownIfAlone 42 = .ok (.iaload, 1) := by decide +kernel
theorem dX8_crownIfAlone_43 : decode cX8_crownIfAlone 43 = .ok (.iconst 1, 1) := by decide +kernel
theorem dX8_crownIfAlone_44 : decode cX8_crownIfAlone 44 = .ok (.iadd, 1) := by decide +kernel
theorem dX8_crownIfAlone_45 : decode cX8_crownIfAlone 45 = .ok (.iastore, 1) := by decide +kernel
theorem dX8_crownIfAlone_46 : decode cX8_crownIfAlone 46 = .ok (.return_, 1) := by decide +kernel
theorem dX8_tally_0 : decode cX8_tally 0 = .ok (.iload_n 1, 1) := by decide +kernel
theorem dX8_tally_1 : decode cX8_tally 1 = .ok (.tableswitch 125 0 7 #[47, 55, 63, 71, 93, 101, 109, 117], 47) := by decide +kernel
theorem dX8_tally_48 : decode cX8_tally 48 = .ok (.aload_n 0, 1) := by decide +kernel
theorem dX8_tally_49 : decode cX8_tally 49 = .ok (.getfield 19, 3) := by decide +kernel
theorem dX8_tally_52 : decode cX8_tally 52 = .ok (.getfield 72, 3) := by decide +kernel
theorem dX8_tally_55 : decode cX8_tally 55 = .ok (.ireturn, 1) := by decide +kernel
theorem dX8_tally_56 : decode cX8_tally 56 = .ok (.aload_n 0, 1) := by decide +kernel
theorem dX8_tally_57 : decode cX8_tally 57 = .ok (.getfield 19, 3) := by decide +kernel
theorem dX8_tally_60 : decode cX8_tally 60 = .ok (.getfield 112, 3) := by decide +kernel
theorem dX8_tally_63 : decode cX8_tally 63 = .ok (.ireturn, 1) := by decide +kernel
theorem dX8_tally_64 : decode cX8_tally 64 = .ok (.aload_n 0, 1) := by decide +kernel
theorem dX8_tally_65 : decode cX8_tally 65 = .ok (.getfield 33, 3) := by decide +kernel
theorem dX8_tally_68 : decode cX8_tally 68 = .ok (.getfield 184, 3) := by decide +kernel
theorem dX8_tally_71 : decode cX8_tally 71 = .ok (.ireturn, 1) := by decide +kernel
theorem dX8_tally_72 : decode cX8_tally 72 = .ok (.aload_n 0, 1) := by decide +kernel
theorem dX8_tally_73 : decode cX8_tally 73 = .ok (.getfield 33, 3) := by decide +kernel
theorem dX8_tally_76 : decode cX8_tally 76 = .ok (.getfield 76, 3) := by decide +kernel
theorem dX8_tally_79 : decode cX8_tally 79 = .ok (.ifCond .eq 13, 3) := by decide +kernel
theorem dX8_tally_82 : decode cX8_tally 82 = .ok (.aload_n 0, 1) := by decide +kernel
theorem dX8_tally_83 : decode cX8_tally 83 = .ok (.getfield 33, 3) := by decide +kernel
theorem dX8_tally_86 : decode cX8_tally 86 = .ok (.getfield 187, 3) := by decide +kernel
theorem dX8_tally_89 : decode cX8_tally 89 = .ok (.goto 4, 3) := by decide +kernel
theorem dX8_tally_92 : decode cX8_tally 92 = .ok (.iconst 0, 1) := by decide +kernel
theorem dX8_tally_93 : decode cX8_tally 93 = .ok (.ireturn, 1) := by decide +kernel
theorem dX8_tally_94 : decode cX8_tally 94 = .ok (.aload_n 0, 1) := by decide +kernel
theorem dX8_tally_95 : decode cX8_tally 95 = .ok (.getfield 33, 3) := by decide +kernel
theorem dX8_tally_98 : decode cX8_tally 98 = .ok (.getfield 336, 3) := by decide +kernel
theorem dX8_tally_101 : decode cX8_tally 101 = .ok (.ireturn, 1) := by decide +kernel
theorem dX8_tally_102 : decode cX8_tally 102 = .ok (.aload_n 0, 1) := by decide +kernel
theorem dX8_tally_103 : decode cX8_tally 103 = .ok (.getfield 33, 3) := by decide +kernel
theorem dX8_tally_106 : decode cX8_tally 106 = .ok (.getfield 181, 3) := by decide +kernel
theorem dX8_tally_109 : decode cX8_tally 109 = .ok (.ireturn, 1) := by decide +kernel
theorem dX8_tally_110 : decode cX8_tally 110 = .ok (.aload_n 0, 1) := by decide +kernel
theorem dX8_tally_111 : decode cX8_tally 111 = .ok (.getfield 47, 3) := by decide +kernel
theorem dX8_tally_114 : decode cX8_tally 114 = .ok (.getfield 226, 3) := by decide +kernel
theorem dX8_tally_117 : decode cX8_tally 117 = .ok (.ireturn, 1) := by decide +kernel
theorem dX8_tally_118 : decode cX8_tally 118 = .ok (.aload_n 0, 1) := by decide +kernel
theorem dX8_tally_119 : decode cX8_tally 119 = .ok (.getfield 54, 3) := by decide +kernel
theorem dX8_tally_122 : decode cX8_tally 122 = .ok (.getfield 377, 3) := by decide +kernel
theorem dX8_tally_125 : decode cX8_tally 125 = .ok (.ireturn, 1) := by decide +kernel
theorem dX8_tally_126 : decode cX8_tally 126 = .ok (.iconst (-1), 1) := by decide +kernel
theorem dX8_tally_127 : decode cX8_tally 127 = .ok (.ireturn, 1) := by decide +kernel
theorem dX8_withWrestler_0 : decode cX8_withWrestler 0 = .ok (.aload_n 0, 1) := by decide +kernel
theorem dX8_withWrestler_1 : decode cX8_withWrestler 1 = .ok (.getfield 19, 3) := by decide +kernel
theorem dX8_withWrestler_4 : decode cX8_withWrestler 4 = .ok (.getfield 90, 3) := by decide +kernel
theorem dX8_withWrestler_7 : decode cX8_withWrestler 7 = .ok (.iload_n 3, 1) := by decide +kernel
theorem dX8_withWrestler_8 : decode cX8_withWrestler 8 = .ok (.baload, 1) := by decide +kernel
theorem dX8_withWrestler_9 : decode cX8_withWrestler 9 = .ok (.ifCond .eq 11, 3) := by decide +kernel
theorem dX8_withWrestler_12 : decode cX8_withWrestler 12 = .ok (.ldc2_w 334, 3) := by decide +kernel
theorem dX8_withWrestler_15 : decode cX8_withWrestler 15 = .ok (.lload_n 1, 1) := by decide +kernel
theorem dX8_withWrestler_16 : decode cX8_withWrestler 16 = .ok (.lmul, 1) := by decide +kernel
theorem dX8_withWrestler_17 : decode cX8_withWrestler 17 = .ok (.lconst 1, 1) := by decide +kernel
theorem dX8_withWrestler_18 : decode cX8_withWrestler 18 = .ok (.lsub, 1) := by decide +kernel
theorem dX8_withWrestler_19 : decode cX8_withWrestler 19 = .ok (.lreturn, 1) := by decide +kernel
theorem dX8_withWrestler_20 : decode cX8_withWrestler 20 = .ok (.lload_n 1, 1) := by decide +kernel
theorem dX8_withWrestler_21 : decode cX8_withWrestler 21 = .ok (.lstore 4, 2) := by decide +kernel
theorem dX8_withWrestler_23 : decode cX8_withWrestler 23 = .ok (.iconst 0, 1) := by decide +kernel
theorem dX8_withWrestler_24 : decode cX8_withWrestler 24 = .ok (.istore 6, 2) := by decide +kernel
theorem dX8_withWrestler_26 : decode cX8_withWrestler 26 = .ok (.iload 6, 2) := by decide +kernel
theorem dX8_withWrestler_28 : decode cX8_withWrestler 28 = .ok (.bipush 7, 2) := by decide +kernel
theorem dX8_withWrestler_30 : decode cX8_withWrestler 30 = .ok (.if_icmp .ge 29, 3) := by decide +kernel
theorem dX8_withWrestler_33 : decode cX8_withWrestler 33 = .ok (.ldc2_w 334, 3) := by decide +kernel
theorem dX8_withWrestler_36 : decode cX8_withWrestler 36 = .ok (.lload 4, 2) := by decide +kernel
theorem dX8_withWrestler_38 : decode cX8_withWrestler 38 = .ok (.lmul, 1) := by decide +kernel
theorem dX8_withWrestler_39 : decode cX8_withWrestler 39 = .ok (.aload_n 0, 1) := by decide +kernel
theorem dX8_withWrestler_40 : decode cX8_withWrestler 40 = .ok (.getfield 19, 3) := by decide +kernel
theorem dX8_withWrestler_43 : decode cX8_withWrestler 43 = .ok (.iload_n 3, 1) := by decide +kernel
theorem dX8_withWrestler_44 : decode cX8_withWrestler 44 = .ok (.iload 6, 2) := by decide +kernel
theorem dX8_withWrestler_46 : decode cX8_withWrestler 46 = .ok (.invokevirtual 104, 3) := by decide +kernel
theorem dX8_withWrestler_49 : decode cX8_withWrestler 49 = .ok (.i2l, 1) := by decide +kernel
theorem dX8_withWrestler_50 : decode cX8_withWrestler 50 = .ok (.ladd, 1) := by decide +kernel
theorem dX8_withWrestler_51 : decode cX8_withWrestler 51 = .ok (.lstore 4, 2) := by decide +kernel
theorem dX8_withWrestler_53 : decode cX8_withWrestler 53 = .ok (.iinc 6 1, 3) := by decide +kernel
theorem dX8_withWrestler_56 : decode cX8_withWrestler 56 = .ok (.goto (-30), 3) := by decide +kernel
theorem dX8_withWrestler_59 : decode cX8_withWrestler 59 = .ok (.lload 4, 2) := by decide +kernel
theorem dX8_withWrestler_61 : decode cX8_withWrestler 61 = .ok (.lreturn, 1) := by decide +kernel
theorem dX8_withSheet_0 : decode cX8_withSheet 0 = .ok (.ldc2_w 334, 3) := by decide +kernel
theorem dX8_withSheet_3 : decode cX8_withSheet 3 = .ok (.lload_n 1, 1) := by decide +kernel
theorem dX8_withSheet_4 : decode cX8_withSheet 4 = .ok (.lmul, 1) := by decide +kernel
theorem dX8_withSheet_5 : decode cX8_withSheet 5 = .ok (.aload_n 0, 1) := by decide +kernel
theorem dX8_withSheet_6 : decode cX8_withSheet 6 = .ok (.getfield 26, 3) := by decide +kernel
theorem dX8_withSheet_9 : decode cX8_withSheet 9 = .ok (.getfield 138, 3) := by decide +kernel
theorem dX8_withSheet_12 : decode cX8_withSheet 12 = .ok (.iload_n 3, 1) := by decide +kernel
theorem dX8_withSheet_13 : decode cX8_withSheet 13 = .ok (.iaload, 1) := by decide +kernel
theorem dX8_withSheet_14 : decode cX8_withSheet 14 = .ok (.i2l, 1) := by decide +kernel
theorem dX8_withSheet_15 : decode cX8_withSheet 15 = .ok (.ladd, 1) := by decide +kernel
theorem dX8_withSheet_16 : decode cX8_withSheet 16 = .ok (.lstore 4, 2) := by decide +kernel
theorem dX8_withSheet_18 : decode cX8_withSheet 18 = .ok (.iconst 0, 1) := by decide +kernel
theorem dX8_withSheet_19 : decode cX8_withSheet 19 = .ok (.istore 6, 2) := by decide +kernel
theorem dX8_withSheet_21 : decode cX8_withSheet 21 = .ok (.iload 6, 2) := by decide +kernel
theorem dX8_withSheet_23 : decode cX8_withSheet 23 = .ok (.aload_n 0, 1) := by decide +kernel
theorem dX8_withSheet_24 : decode cX8_withSheet 24 = .ok (.getfield 26, 3) := by decide +kernel
theorem dX8_withSheet_27 : decode cX8_withSheet 27 = .ok (.getfield 138, 3) := by decide +kernel
theorem dX8_withSheet_30 : decode cX8_withSheet 30 = .ok (.iload_n 3, 1) := by decide +kernel
theorem dX8_withSheet_31 : decode cX8_withSheet 31 = .ok (.iaload, 1) := by decide +kernel
theorem dX8_withSheet_32 : decode cX8_withSheet 32 = .ok (.if_icmp .ge 31, 3) := by decide +kernel
theorem dX8_withSheet_35 : decode cX8_withSheet 35 = .ok (.ldc2_w 334, 3) := by decide +kernel
theorem dX8_withSheet_38 : decode cX8_withSheet 38 = .ok (.lload 4, 2) := by decide +kernel
theorem dX8_withSheet_40 : decode cX8_withSheet 40 = .ok (.lmul, 1) := by decide +kernel
theorem dX8_withSheet_41 : decode cX8_withSheet 41 = .ok (.aload_n 0, 1) := by decide +kernel
theorem dX8_withSheet_42 : decode cX8_withSheet 42 = .ok (.getfield 26, 3) := by decide +kernel
theorem dX8_withSheet_45 : decode cX8_withSheet 45 = .ok (.getfield 149, 3) := by decide +kernel
theorem dX8_withSheet_48 : decode cX8_withSheet 48 = .ok (.iload_n 3, 1) := by decide +kernel
theorem dX8_withSheet_49 : decode cX8_withSheet 49 = .ok (.aaload, 1) := by decide +kernel
theorem dX8_withSheet_50 : decode cX8_withSheet 50 = .ok (.iload 6, 2) := by decide +kernel
theorem dX8_withSheet_52 : decode cX8_withSheet 52 = .ok (.baload, 1) := by decide +kernel
theorem dX8_withSheet_53 : decode cX8_withSheet 53 = .ok (.i2l, 1) := by decide +kernel
theorem dX8_withSheet_54 : decode cX8_withSheet 54 = .ok (.ladd, 1) := by decide +kernel
theorem dX8_withSheet_55 : decode cX8_withSheet 55 = .ok (.lstore 4, 2) := by decide +kernel
theorem dX8_withSheet_57 : decode cX8_withSheet 57 = .ok (.iinc 6 1, 3) := by decide +kernel
theorem dX8_withSheet_60 : decode cX8_withSheet 60 = .ok (.goto (-39), 3) := by decide +kernel
theorem dX8_withSheet_63 : decode cX8_withSheet 63 = .ok (.lload 4, 2) := by decide +kernel
theorem dX8_withSheet_65 : decode cX8_withSheet 65 = .ok (.lreturn, 1) := by decide +kernel
theorem dX9_init_0 : decode cX9_init 0 = .ok (.aload_n 0, 1) := by decide +kernel
theorem dX9_init_1 : decode cX9_init 1 = .ok (.invokespecial 1, 3) := by decide +kernel
theorem dX9_init_4 : decode cX9_init 4 = .ok (.aload_n 0, 1) := by decide +kernel
theorem dX9_init_5 : decode cX9_init 5 = .ok (.bipush 6, 2) := by decide +kernel
theorem dX9_init_7 : decode cX9_init 7 = .ok (.newarray .int, 2) := by decide +kernel
theorem dX9_init_9 : decode cX9_init 9 = .ok (.putfield 7, 3) := by decide +kernel
theorem dX9_init_12 : decode cX9_init 12 = .ok (.aload_n 0, 1) := by decide +kernel
theorem dX9_init_13 : decode cX9_init 13 = .ok (.bipush 16, 2) := by decide +kernel
theorem dX9_init_15 : decode cX9_init 15 = .ok (.newarray .int, 2) := by decide +kernel
theorem dX9_init_17 : decode cX9_init 17 = .ok (.putfield 13, 3) := by decide +kernel
theorem dX9_init_20 : decode cX9_init 20 = .ok (.aload_n 0, 1) := by decide +kernel
theorem dX9_init_21 : decode cX9_init 21 = .ok (.bipush 16, 2) := by decide +kernel
theorem dX9_init_23 : decode cX9_init 23 = .ok (.newarray .int, 2) := by decide +kernel
theorem dX9_init_25 : decode cX9_init 25 = .ok (.putfield 16, 3) := by decide +kernel
theorem dX9_init_28 : decode cX9_init 28 = .ok (.aload_n 0, 1) := by decide +kernel
theorem dX9_init_29 : decode cX9_init 29 = .ok (.bipush 16, 2) := by decide +kernel
theorem dX9_init_31 : decode cX9_init 31 = .ok (.newarray .int, 2) := by decide +kernel
theorem dX9_init_33 : decode cX9_init 33 = .ok (.putfield 19, 3) := by decide +kernel
theorem dX9_init_36 : decode cX9_init 36 = .ok (.aload_n 0, 1) := by decide +kernel
theorem dX9_init_37 : decode cX9_init 37 = .ok (.bipush 16, 2) := by decide +kernel
theorem dX9_init_39 : decode cX9_init 39 = .ok (.newarray .boolean, 2) := by decide +kernel
theorem dX9_init_41 : decode cX9_init 41 = .ok (.putfield 22, 3) := by decide +kernel
theorem dX9_init_44 : decode cX9_init 44 = .ok (.aload_n 0, 1) := by decide +kernel
theorem dX9_init_45 : decode cX9_init 45 = .ok (.bipush 16, 2) := by decide +kernel
theorem dX9_init_47 : decode cX9_init 47 = .ok (.newarray .boolean, 2) := by decide +kernel
theorem dX9_init_49 : decode cX9_init 49 = .ok (.putfield 26, 3) := by decide +kernel
theorem dX9_init_52 : decode cX9_init 52 = .ok (.aload_n 0, 1) := by decide +kernel
theorem dX9_init_53 : decode cX9_init 53 = .ok (.bipush 16, 2) := by decide +kernel
theorem dX9_init_55 : decode cX9_init 55 = .ok (.newarray .int, 2) := by decide +kernel
theorem dX9_init_57 : decode cX9_init 57 = .ok (.putfield 29, 3) := by decide +kernel
theorem dX9_init_60 : decode cX9_init 60 = .ok (.aload_n 0, 1) := by decide +kernel
theorem dX9_init_61 : decode cX9_init 61 = .ok (.bipush 16, 2) := by decide +kernel
theorem dX9_init_63 : decode cX9_init 63 = .ok (.newarray .int, 2) := by decide +kernel
theorem dX9_init_65 : decode cX9_init 65 = .ok (.putfield 32, 3) := by decide +kernel
theorem dX9_init_68 : decode cX9_init 68 = .ok (.aload_n 0, 1) := by decide +kernel
theorem dX9_init_69 : decode cX9_init 69 = .ok (.bipush 16, 2) := by decide +kernel
theorem dX9_init_71 : decode cX9_init 71 = .ok (.newarray .int, 2) := by decide +kernel
theorem dX9_init_73 : decode cX9_init 73 = .ok (.putfield 35, 3) := by decide +kernel
theorem dX9_init_76 : decode cX9_init 76 = .ok (.aload_n 0, 1) := by decide +kernel
theorem dX9_init_77 : decode cX9_init 77 = .ok (.bipush 16, 2) := by decide +kernel
theorem dX9_init_79 : decode cX9_init 79 = .ok (.newarray .int, 2) := by decide +kernel
theorem dX9_init_81 : decode cX9_init 81 = .ok (.putfield 38, 3) := by decide +kernel
theorem dX9_init_84 : decode cX9_init 84 = .ok (.aload_n 0, 1) := by decide +kernel
theorem dX9_init_85 : decode cX9_init 85 = .ok (.bipush 16, 2) := by decide +kernel
theorem dX9_init_87 : decode cX9_init 87 = .ok (.newarray .int, 2) := by decide +kernel
theorem dX9_init_89 : decode cX9_init 89 = .ok (.putfield 41, 3) := by decide +kernel
theorem dX9_init_92 : decode cX9_init 92 = .ok (.aload_n 0, 1) := by decide +kernel
theorem dX9_init_93 : decode cX9_init 93 = .ok (.iconst 4, 1) := by decide +kernel
theorem dX9_init_94 : decode cX9_init 94 = .ok (.newarray .int, 2) := by decide +kernel
theorem dX9_init_96 : decode cX9_init 96 = .ok (.putfield 44, 3) := by decide +kernel
theorem dX9_init_99 : decode cX9_init 99 = .ok (.aload_n 0, 1) := by decide +kernel
theorem dX9_init_100 : decode cX9_init 100 = .ok (.bipush 64, 2) := by decide +kernel
theorem dX9_init_102 : decode cX9_init 102 = .ok (.newarray .byte, 2) := by decide +kernel
theorem dX9_init_104 : decode cX9_init 104 = .ok (.putfield 47, 3) := by decide +kernel
theorem dX9_init_107 : decode cX9_init 107 = .ok (.aload_n 0, 1) := by decide +kernel
theorem dX9_init_108 : decode cX9_init 108 = .ok (.bipush 16, 2) := by decide +kernel
theorem dX9_init_110 : decode cX9_init 110 = .ok (.newarray .byte, 2) := by decide +kernel
theorem dX9_init_112 : decode cX9_init 112 = .ok (.putfield 51, 3) := by decide +kernel
theorem dX9_init_115 : decode cX9_init 115 = .ok (.aload_n 0, 1) := by decide +kernel
theorem dX9_init_116 : decode cX9_init 116 = .ok (.bipush 120, 2) := by decide +kernel
theorem dX9_init_118 : decode cX9_init 118 = .ok (.newarray .int, 2) := by decide +kernel
theorem dX9_init_120 : decode cX9_init 120 = .ok (.putfield 54, 3) := by decide +kernel
theorem dX9_init_123 : decode cX9_init 123 = .ok (.aload_n 0, 1) := by decide +kernel
theorem dX9_init_124 : decode cX9_init 124 = .ok (.bipush 120, 2) := by decide +kernel
theorem dX9_init_126 : decode cX9_init 126 = .ok (.newarray .int, 2) := by decide +kernel
theorem dX9_init_128 : decode cX9_init 128 = .ok (.putfield 57, 3) := by decide +kernel
theorem dX9_init_131 : decode cX9_init 131 = .ok (.aload_n 0, 1) := by decide +kernel
theorem dX9_init_132 : decode cX9_init 132 = .ok (.bipush 120, 2) := by decide +kernel
theorem dX9_init_134 : decode cX9_init 134 = .ok (.newarray .int, 2) := by decide +kernel
theorem dX9_init_136 : decode cX9_init 136 = .ok (.putfield 60, 3) := by decide +kernel
theorem dX9_init_139 : decode cX9_init 139 = .ok (.aload_n 0, 1) := by decide +kernel
theorem dX9_init_140 : decode cX9_init 140 = .ok (.bipush 120, 2) := by decide +kernel
theorem dX9_init_142 : decode cX9_init 142 = .ok (.newarray .int, 2) := by decide +kernel
theorem dX9_init_144 : decode cX9_init 144 = .ok (.putfield 63, 3) := by decide +kernel
theorem dX9_init_147 : decode cX9_init 147 = .ok (.aload_n 0, 1) := by decide +kernel
theorem dX9_init_148 : decode cX9_init 148 = .ok (.bipush 16, 2) := by decide +kernel
theorem dX9_init_150 : decode cX9_init 150 = .ok (.newarray .int, 2) := by decide +kernel
theorem dX9_init_152 : decode cX9_init 152 = .ok (.putfield 66, 3) := by decide +kernel
theorem dX9_init_155 : decode cX9_init 155 = .ok (.aload_n 0, 1) := by decide +kernel
theorem dX9_init_156 : decode cX9_init 156 = .ok (.sipush 256, 3) := by decide +kernel
theorem dX9_init_159 : decode cX9_init 159 = .ok (.newarray .int, 2) := by decide +kernel
theorem dX9_init_161 : decode cX9_init 161 = .ok (.putfield 69, 3) := by decide +kernel
theorem dX9_init_164 : decode cX9_init 164 = .ok (.aload_n 0, 1) := by decide +kernel
theorem dX9_init_165 : decode cX9_init 165 = .ok (.ldc 72, 2) := by decide +kernel
theorem dX9_init_167 : decode cX9_init 167 = .ok (.newarray .int, 2) := by decide +kernel
theorem dX9_init_169 : decode cX9_init 169 = .ok (.putfield 73, 3) := by decide +kernel
theorem dX9_init_172 : decode cX9_init 172 = .ok (.aload_n 0, 1) := by decide +kernel
theorem dX9_init_173 : decode cX9_init 173 = .ok (.bipush 12, 2) := by decide +kernel
theorem dX9_init_175 : decode cX9_init 175 = .ok (.newarray .int, 2) := by decide +kernel
theorem dX9_init_177 : decode cX9_init 177 = .ok (.putfield 76, 3) := by decide +kernel
theorem dX9_init_180 : decode cX9_init 180 = .ok (.aload_n 0, 1) := by decide +kernel
theorem dX9_init_181 : decode cX9_init 181 = .ok (.bipush 12, 2) := by decide +kernel
theorem dX9_init_183 : decode cX9_init 183 = .ok (.newarray .int, 2) := by decide +kernel
theorem dX9_init_185 : decode cX9_init 185 = .ok (.putfield 79, 3) := by decide +kernel
theorem dX9_init_188 : decode cX9_init 188 = .ok (.aload_n 0, 1) := by decide +kernel
theorem dX9_init_189 : decode cX9_init 189 = .ok (.bipush 12, 2) := by decide +kernel
theorem dX9_init_191 : decode cX9_init 191 = .ok (.newarray .int, 2) := by decide +kernel
theorem dX9_init_193 : decode cX9_init 193 = .ok (.putfield 82, 3) := by decide +kernel
theorem dX9_init_196 : decode cX9_init 196 = .ok (.aload_n 0, 1) := by decide +kernel
theorem dX9_init_197 : decode cX9_init 197 = .ok (.bipush 16, 2) := by decide +kernel
theorem dX9_init_199 : decode cX9_init 199 = .ok (.newarray .int, 2) := by decide +kernel
theorem dX9_init_201 : decode cX9_init 201 = .ok (.putfield 85, 3) := by decide +kernel
theorem dX9_init_204 : decode cX9_init 204 = .ok (.aload_n 0, 1) := by decide +kernel
theorem dX9_init_205 : decode cX9_init 205 = .ok (.bipush 16, 2) := by decide +kernel
theorem dX9_init_207 : decode cX9_init 207 = .ok (.newarray .int, 2) := by decide +kernel
theorem dX9_init_209 : decode cX9_init 209 = .ok (.putfield 88, 3) := by decide +kernel
theorem dX9_init_212 : decode cX9_init 212 = .ok (.aload_n 0, 1) := by decide +kernel
theorem dX9_init_213 : decode cX9_init 213 = .ok (.bipush 16, 2) := by decide +kernel
theorem dX9_init_215 : decode cX9_init 215 = .ok (.newarray .int, 2) := by decide +kernel
theorem dX9_init_217 : decode cX9_init 217 = .ok (.putfield 91, 3) := by decide +kernel
theorem dX9_init_220 : decode cX9_init 220 = .ok (.aload_n 0, 1) := by decide +kernel
theorem dX9_init_221 : decode cX9_init 221 = .ok (.bipush 16, 2) := by decide +kernel
theorem dX9_init_223 : decode cX9_init 223 = .ok (.newarray .int, 2) := by decide +kernel
theorem dX9_init_225 : decode cX9_init 225 = .ok (.putfield 94, 3) := by decide +kernel
theorem dX9_init_228 : decode cX9_init 228 = .ok (.aload_n 0, 1) := by decide +kernel
theorem dX9_init_229 : decode cX9_init 229 = .ok (.bipush 16, 2) := by decide +kernel
theorem dX9_init_231 : decode cX9_init 231 = .ok (.newarray .int, 2) := by decide +kernel
theorem dX9_init_233 : decode cX9_init 233 = .ok (.putfield 97, 3) := by decide +kernel
theorem dX9_init_236 : decode cX9_init 236 = .ok (.aload_n 0, 1) := by decide +kernel
theorem dX9_init_237 : decode cX9_init 237 = .ok (.bipush 16, 2) := by decide +kernel
theorem dX9_init_239 : decode cX9_init 239 = .ok (.newarray .int, 2) := by decide +kernel
theorem dX9_init_241 : decode cX9_init 241 = .ok (.putfield 100, 3) := by decide +kernel
theorem dX9_init_244 : decode cX9_init 244 = .ok (.aload_n 0, 1) := by decide +kernel
theorem dX9_init_245 : decode cX9_init 245 = .ok (.bipush 16, 2) := by decide +kernel
theorem dX9_init_247 : decode cX9_init 247 = .ok (.newarray .int, 2) := by decide +kernel
theorem dX9_init_249 : decode cX9_init 249 = .ok (.putfield 103, 3) := by decide +kernel
theorem dX9_init_252 : decode cX9_init 252 = .ok (.aload_n 0, 1) := by decide +kernel
theorem dX9_init_253 : decode cX9_init 253 = .ok (.bipush 16, 2) := by decide +kernel
theorem dX9_init_255 : decode cX9_init 255 = .ok (.newarray .int, 2) := by decide +kernel
theorem dX9_init_257 : decode cX9_init 257 = .ok (.putfield 106, 3) := by decide +kernel
theorem dX9_init_260 : decode cX9_init 260 = .ok (.aload_n 0, 1) := by decide +kernel
theorem dX9_init_261 : decode cX9_init 261 = .ok (.bipush 16, 2) := by decide +kernel
theorem dX9_init_263 : decode cX9_init 263 = .ok (.newarray .int, 2) := by decide +kernel
theorem dX9_init_265 : decode cX9_init 265 = .ok (.putfield 109, 3) := by decide +kernel
theorem dX9_init_268 : decode cX9_init 268 = .ok (.aload_n 0, 1) := by decide +kernel
theorem dX9_init_269 : decode cX9_init 269 = .ok (.bipush (-9), 2) := by decide +kernel
theorem dX9_init_271 : decode cX9_init 271 = .ok (.putfield 112, 3) := by decide +kernel
theorem dX9_init_274 : decode cX9_init 274 = .ok (.aload_n 0, 1) := by decide +kernel
theorem dX9_init_275 : decode cX9_init 275 = .ok (.bipush (-9), 2) := by decide +kernel
theorem dX9_init_277 : decode cX9_init 277 = .ok (.putfield 116, 3) := by decide +kernel
theorem dX9_init_280 : decode cX9_init 280 = .ok (.iconst 0, 1) := by decide +kernel
theorem dX9_init_281 : decode cX9_init 281 = .ok (.istore_n 1, 1) := by decide +kernel
theorem dX9_init_282 : decode cX9_init 282 = .ok (.iload_n 1, 1) := by decide +kernel
theorem dX9_init_283 : decode cX9_init 283 = .ok (.iconst 4, 1) := by decide +kernel
theorem dX9_init_284 : decode cX9_init 284 = .ok (.if_icmp .ge 16, 3) := by decide +kernel
theorem dX9_init_287 : decode cX9_init 287 = .ok (.aload_n 0, 1) := by decide +kernel
theorem dX9_init_288 : decode cX9_init 288 = .ok (.getfield 44, 3) := by decide +kernel
theorem dX9_init_291 : decode cX9_init 291 = .ok (.iload_n 1, 1) := by decide +kernel
theorem dX9_init_292 : decode cX9_init 292 = .ok (.iconst (-1), 1) := by decide +kernel
theorem dX9_init_293 : decode cX9_init 293 = .ok (.iastore, 1) := by decide +kernel
theorem dX9_init_294 : decode cX9_init 294 = .ok (.iinc 1 1, 3) := by decide +kernel
theorem dX9_init_297 : decode cX9_init 297 = .ok (.goto (-15), 3) := by decide +kernel
theorem dX9_init_300 : decode cX9_init 300 = .ok (.iconst 0, 1) := by decide +kernel
theorem dX9_init_301 : decode cX9_init 301 = .ok (.istore_n 1, 1) := by decide +kernel
theorem dX9_init_302 : decode cX9_init 302 = .ok (.iload_n 1, 1) := by decide +kernel
theorem dX9_init_303 : decode cX9_init 303 = .ok (.bipush 16, 2) := by decide +kernel
theorem dX9_init_305 : decode cX9_init 305 = .ok (.if_icmp .ge 41, 3) := by decide +kernel
theorem dX9_init_308 : decode cX9_init 308 = .ok (.aload_n 0, 1) := by decide +kernel
theorem dX9_init_309 : decode cX9_init 309 = .ok (.getfield 85, 3) := by decide +kernel
theorem dX9_init_312 : decode cX9_init 312 = .ok (.iload_n 1, 1) := by decide +kernel
theorem dX9_init_313 : decode cX9_init 313 = .ok (.bipush (-9), 2) := by decide +kernel
theorem dX9_init_315 : decode cX9_init 315 = .ok (.iastore, 1) := by decide +kernel
theorem dX9_init_316 : decode cX9_init 316 = .ok (.aload_n 0, 1) := by decide +kernel
theorem dX9_init_317 : decode cX9_init 317 = .ok (.getfield 88, 3) := by decide +kernel
theorem dX9_init_320 : decode cX9_init 320 = .ok (.iload_n 1, 1) := by decide +kernel
theorem dX9_init_321 : decode cX9_init 321 = .ok (.bipush (-9), 2) := by decide +kernel
theorem dX9_init_323 : decode cX9_init 323 = .ok (.iastore, 1) := by decide +kernel
theorem dX9_init_324 : decode cX9_init 324 = .ok (.aload_n 0, 1) := by decide +kernel
theorem dX9_init_325 : decode cX9_init 325 = .ok (.getfield 91, 3) := by decide +kernel
theorem dX9_init_328 : decode cX9_init 328 = .ok (.iload_n 1, 1) := by decide +kernel
theorem dX9_init_329 : decode cX9_init 329 = .ok (.bipush (-9), 2) := by decide +kernel
theorem dX9_init_331 : decode cX9_init 331 = .ok (.iastore, 1) := by decide +kernel
theorem dX9_init_332 : decode cX9_init 332 = .ok (.aload_n 0, 1) := by decide +kernel
theorem dX9_init_333 : decode cX9_init 333 = .ok (.getfield 94, 3) := by decide +kernel
theorem dX9_init_336 : decode cX9_init 336 = .ok (.iload_n 1, 1) := by decide +kernel
theorem dX9_init_337 : decode cX9_init 337 = .ok (.bipush (-9), 2) := by decide +kernel
theorem dX9_init_339 : decode cX9_init 339 = .ok (.iastore, 1) := by decide +kernel
theorem dX9_init_340 : decode cX9_init 340 = .ok (.iinc 1 1, 3) := by decide +kernel
theorem dX9_init_343 : decode cX9_init 343 = .ok (.goto (-41), 3) := by decide +kernel
theorem dX9_init_346 : decode cX9_init 346 = .ok (.return_, 1) := by decide +kernel
theorem dX9_in_0 : decode cX9_in 0 = .ok (.iload_n 0, 1) := by decide +kernel
theorem dX9_in_1 : decode cX9_in 1 = .ok (.iload_n 1, 1) := by decide +kernel
theorem dX9_in_2 : decode cX9_in 2 = .ok (.if_icmp .lt 12, 3) := by decide +kernel
theorem dX9_in_5 : decode cX9_in 5 = .ok (.iload_n 0, 1) := by decide +kernel
theorem dX9_in_6 : decode cX9_in 6 = .ok (.iload_n 2, 1) := by decide +kernel
theorem dX9_in_7 : decode cX9_in 7 = .ok (.if_icmp .gt 7, 3) := by decide +kernel
theorem dX9_in_10 : decode cX9_in 10 = .ok (.iconst 1, 1) := by decide +kernel
theorem dX9_in_11 : decode cX9_in 11 = .ok (.goto 4, 3) := by decide +kernel
theorem dX9_in_14 : decode cX9_in 14 = .ok (.iconst 0, 1) := by decide +kernel
theorem dX9_in_15 : decode cX9_in 15 = .ok (.ireturn, 1) := by decide +kernel
theorem dX9_meets_0 : decode cX9_meets 0 = .ok (.aload_n 0, 1) := by decide +kernel
theorem dX9_meets_1 : decode cX9_meets 1 = .ok (.iload_n 1, 1) := by decide +kernel
theorem dX9_meets_2 : decode cX9_meets 2 = .ok (.putfield 119, 3) := by decide +kernel
theorem dX9_meets_5 : decode cX9_meets 5 = .ok (.aload_n 0, 1) := by decide +kernel
theorem dX9_meets_6 : decode cX9_meets 6 = .ok (.getfield 7, 3) := by decide +kernel
theorem dX9_meets_9 : decode cX9_meets 9 = .ok (.iload_n 1, 1) := by decide +kernel
theorem dX9_meets_10 : decode cX9_meets 10 = .ok (.dup2, 1) := by decide +kernel
theorem dX9_meets_11 : decode cX9_meets 11 = .ok (.iaload, 1) := by decide +kernel
theorem dX9_meets_12 : decode cX9_meets 12 = .ok (.iconst 1, 1) := by decide +kernel
theorem dX9_meets_13 : decode cX9_meets 13 = .ok (.iadd, 1) := by decide +kernel
theorem dX9_meets_14 : decode cX9_meets 14 = .ok (.iastore, 1) := by decide +kernel
theorem dX9_meets_15 : decode cX9_meets 15 = .ok (.bipush (-3), 2) := by decide +kernel
theorem dX9_meets_17 : decode cX9_meets 17 = .ok (.ireturn, 1) := by decide +kernel
theorem dX9_finding_0 : decode cX9_finding 0 = .ok (.aload_n 0, 1) := by decide +kernel
theorem dX9_finding_1 : decode cX9_finding 1 = .ok (.getfield 119, 3) := by decide +kernel
theorem dX9_finding_4 : decode cX9_finding 4 = .ok (.ireturn, 1) := by decide +kernel
theorem dX9_findings_0 : decode cX9_findings 0 = .ok (.iload_n 1, 1) := by decide +kernel
theorem dX9_findings_1 : decode cX9_findings 1 = .ok (.iconst 1, 1) := by decide +kernel
theorem dX9_findings_2 : decode cX9_findings 2 = .ok (.iconst 5, 1) := by decide +kernel
theorem dX9_findings_3 : decode cX9_findings 3 = .ok (.invokestatic 122, 3) := by decide +kernel
theorem dX9_findings_6 : decode cX9_findings 6 = .ok (.ifCond .eq 12, 3) := by decide +kernel
theorem dX9_findings_9 : decode cX9_findings 9 = .ok (.aload_n 0, 1) := by decide +kernel
theorem dX9_findings_10 : decode cX9_findings 10 = .ok (.getfield 7, 3) := by decide +kernel
theorem dX9_findings_13 : decode cX9_findings 13 = .ok (.iload_n 1, 1) := by decide +kernel
theorem dX9_findings_14 : decode cX9_findings 14 = .ok (.iaload, 1) := by decide +kernel
theorem dX9_findings_15 : decode cX9_findings 15 = .ok (.goto 4, 3) := by decide +kernel
theorem dX9_findings_18 : decode cX9_findings 18 = .ok (.iconst (-1), 1) := by decide +kernel
theorem dX9_findings_19 : decode cX9_findings 19 = .ok (.ireturn, 1) := by decide +kernel
theorem dX9_rungOf_0 : decode cX9_rungOf 0 = .ok (.iconst 0, 1) := by decide +kernel
theorem dX9_rungOf_1 : decode cX9_rungOf 1 = .ok (.istore_n 2, 1) := by decide +kernel
theorem dX9_rungOf_2 : decode cX9_rungOf 2 = .ok (.iload_n 2, 1) := by decide +kernel
theorem dX9_rungOf_3 : decode cX9_rungOf 3 = .ok (.aload_n 0, 1) := by decide +kernel
theorem dX9_rungOf_4 : decode cX9_rungOf 4 = .ok (.getfield 126, 3) := by decide +kernel
theorem dX9_rungOf_7 : decode cX9_rungOf 7 = .ok (.if_icmp .ge 21, 3) := by decide +kernel
theorem dX9_rungOf_10 : decode cX9_rungOf 10 = .ok (.aload_n 0, 1) := by decide +kernel
theorem dX9_rungOf_11 : decode cX9_rungOf 11 = .ok (.getfield 41, 3) := by decide +kernel
theorem dX9_rungOf_14 : decode cX9_rungOf 14 = .ok (.iload_n 2, 1) := by decide +kernel
theorem dX9_rungOf_15 : decode cX9_rungOf 15 = .ok (.iaload, 1) := by decide +kernel
theorem dX9_rungOf_16 : decode cX9_rungOf 16 = .ok (.iload_n 1, 1) := by decide +kernel
theorem dX9_rungOf_17 : decode cX9_rungOf 17 = .ok (.if_icmp .ne 5, 3) := by decide +kernel
theorem dX9_rungOf_20 : decode cX9_rungOf 20 = .ok (.iload_n 2, 1) := by decide +kernel
theorem dX9_rungOf_21 : decode cX9_rungOf 21 = .ok (.ireturn, 1) := by decide +kernel
theorem dX9_rungOf_22 : decode cX9_rungOf 22 = .ok (.iinc 2 1, 3) := by decide +kernel
theorem dX9_rungOf_25 : decode cX9_rungOf 25 = .ok (.goto (-23), 3) := by decide +kernel
theorem dX9_rungOf_28 : decode cX9_rungOf 28 = .ok (.bipush (-9), 2) := by decide +kernel
theorem dX9_rungOf_30 : decode cX9_rungOf 30 = .ok (.ireturn, 1) := by decide +kernel
theorem dX9_wrestler_0 : decode cX9_wrestler 0 = .ok (.iload_n 1, 1) := by decide +kernel
theorem dX9_wrestler_1 : decode cX9_wrestler 1 = .ok (.iconst 0, 1) := by decide +kernel
theorem dX9_wrestler_2 : decode cX9_wrestler 2 = .ok (.iconst 2, 1) := by decide +kernel
theorem dX9_wrestler_3 : decode cX9_wrestler 3 = .ok (.invokestatic 122, 3) := by decide +kernel
theorem dX9_wrestler_6 : decode cX9_wrestler 6 = .ok (.ifCond .eq 29, 3) := by decide +kernel
theorem dX9_wrestler_9 : decode cX9_wrestler 9 = .ok (.iload_n 2, 1) := by decide +kernel
theorem dX9_wrestler_10 : decode cX9_wrestler 10 = .ok (.iconst 0, 1) := by decide +kernel
theorem dX9_wrestler_11 : decode cX9_wrestler 11 = .ok (.bipush 7, 2) := by decide +kernel
theorem dX9_wrestler_13 : decode cX9_wrestler 13 = .ok (.invokestatic 122, 3) := by decide +kernel
theorem dX9_wrestler_16 : decode cX9_wrestler 16 = .ok (.ifCond .eq 19, 3) := by decide +kernel
theorem dX9_wrestler_19 : decode cX9_wrestler 19 = .ok (.iload_n 3, 1) := by decide +kernel
theorem dX9_wrestler_20 : decode cX9_wrestler 20 = .ok (.bipush (-9), 2) := by decide +kernel
theorem dX9_wrestler_22 : decode cX9_wrestler 22 = .ok (.if_icmp .eq 15, 3) := by decide +kernel
theorem dX9_wrestler_25 : decode cX9_wrestler 25 = .ok (.iload_n 3, 1) := by decide +kernel
theorem dX9_wrestler_26 : decode cX9_wrestler 26 = .ok (.iconst 0, 1) := by decide +kernel
theorem dX9_wrestler_27 : decode cX9_wrestler 27 = .ok (.bipush 7, 2) := by decide +kernel
theorem dX9_wrestler_29 : decode cX9_wrestler 29 = .ok (.invokestatic 122, 3) := by decide +kernel
theorem dX9_wrestler_32 : decode cX9_wrestler 32 = .ok (.ifCond .ne 5, 3) := by decide +kernel
theorem dX9_wrestler_35 : decode cX9_wrestler 35 = .ok (.iconst (-1), 1) := by decide +kernel
theorem dX9_wrestler_36 : decode cX9_wrestler 36 = .ok (.ireturn, 1) := by decide +kernel
theorem dX9_wrestler_37 : decode cX9_wrestler 37 = .ok (.aload_n 0, 1) := by decide +kernel
theorem dX9_wrestler_38 : decode cX9_wrestler 38 = .ok (.getfield 129, 3) := by decide +kernel
theorem dX9_wrestler_41 : decode cX9_wrestler 41 = .ok (.bipush 16, 2) := by decide +kernel
theorem dX9_wrestler_43 : decode cX9_wrestler 43 = .ok (.if_icmp .ne 6, 3) := by decide +kernel
theorem dX9_wrestler_46 : decode cX9_wrestler 46 = .ok (.bipush (-2), 2) := by decide +kernel
theorem dX9_wrestler_48 : decode cX9_wrestler 48 = .ok (.ireturn, 1) := by decide +kernel
theorem dX9_wrestler_49 : decode cX9_wrestler 49 = .ok (.aload_n 0, 1) := by decide +kernel
theorem dX9_wrestler_50 : decode cX9_wrestler 50 = .ok (.getfield 132, 3) := by decide +kernel
theorem dX9_wrestler_53 : decode cX9_wrestler 53 = .ok (.ifCond .eq 6, 3) := by decide +kernel
theorem dX9_wrestler_56 : decode cX9_wrestler 56 = .ok (.bipush (-4), 2) := by decide +kernel
theorem dX9_wrestler_58 : decode cX9_wrestler 58 = .ok (.ireturn, 1) := by decide +kernel
theorem dX9_wrestler_59 : decode cX9_wrestler 59 = .ok (.aload_n 0, 1) := by decide +kernel
theorem dX9_wrestler_60 : decode cX9_wrestler 60 = .ok (.getfield 13, 3) := by decide +kernel
theorem dX9_wrestler_63 : decode cX9_wrestler 63 = .ok (.aload_n 0, 1) := by decide +kernel
theorem dX9_wrestler_64 : decode cX9_wrestler 64 = .ok (.getfield 129, 3) := by decide +kernel
theorem dX9_wrestler_67 : decode cX9_wrestler 67 = .ok (.iload_n 1, 1) := by decide +kernel
theorem dX9_wrestler_68 : decode cX9_wrestler 68 = .ok (.iastore, 1) := by decide +kernel
theorem dX9_wrestler_69 : decode cX9_wrestler 69 = .ok (.aload_n 0, 1) := by decide +kernel
theorem dX9_wrestler_70 : decode cX9_wrestler 70 = .ok (.getfield 16, 3) := by decide +kernel
theorem dX9_wrestler_73 : decode cX9_wrestler 73 = .ok (.aload_n 0, 1) := by decide +kernel
theorem dX9_wrestler_74 : decode cX9_wrestler 74 = .ok (.getfield 129, 3) := by decide +kernel
theorem dX9_wrestler_77 : decode cX9_wrestler 77 = .ok (.iload_n 2, 1) := by decide +kernel
theorem dX9_wrestler_78 : decode cX9_wrestler 78 = .ok (.iastore, 1) := by decide +kernel
theorem dX9_wrestler_79 : decode cX9_wrestler 79 = .ok (.aload_n 0, 1) := by decide +kernel
theorem dX9_wrestler_80 : decode cX9_wrestler 80 = .ok (.getfield 19, 3) := by decide +kernel
theorem dX9_wrestler_83 : decode cX9_wrestler 83 = .ok (.aload_n 0, 1) := by decide +kernel
theorem dX9_wrestler_84 : decode cX9_wrestler 84 = .ok (.getfield 129, 3) := by decide +kernel
theorem dX9_wrestler_87 : decode cX9_wrestler 87 = .ok (.iload_n 3, 1) := by decide +kernel
theorem dX9_wrestler_88 : decode cX9_wrestler 88 = .ok (.iastore, 1) := by decide +kernel
theorem dX9_wrestler_89 : decode cX9_wrestler 89 = .ok (.aload_n 0, 1) := by decide +kernel
theorem dX9_wrestler_90 : decode cX9_wrestler 90 = .ok (.getfield 41, 3) := by decide +kernel
theorem dX9_wrestler_93 : decode cX9_wrestler 93 = .ok (.aload_n 0, 1) := by decide +kernel
theorem dX9_wrestler_94 : decode cX9_wrestler 94 = .ok (.getfield 126, 3) := by decide +kernel
theorem dX9_wrestler_97 : decode cX9_wrestler 97 = .ok (.aload_n 0, 1) := by decide +kernel
theorem dX9_wrestler_98 : decode cX9_wrestler 98 = .ok (.getfield 129, 3) := by decide +kernel
theorem dX9_wrestler_101 : decode cX9_wrestler 101 = .ok (.iastore, 1) := by decide +kernel
theorem dX9_wrestler_102 : decode cX9_wrestler 102 = .ok (.aload_n 0, 1) := by decide +kernel
theorem dX9_wrestler_103 : decode cX9_wrestler 103 = .ok (.dup, 1) := by decide +kernel
theorem dX9_wrestler_104 : decode cX9_wrestler 104 = .ok (.getfield 126, 3) := by decide +kernel
theorem dX9_wrestler_107 : decode cX9_wrestler 107 = .ok (.iconst 1, 1) := by decide +kernel
theorem dX9_wrestler_108 : decode cX9_wrestler 108 = .ok (.iadd, 1) := by decide +kernel
theorem dX9_wrestler_109 : decode cX9_wrestler 109 = .ok (.putfield 126, 3) := by decide +kernel
theorem dX9_wrestler_112 : decode cX9_wrestler 112 = .ok (.aload_n 0, 1) := by decide +kernel
theorem dX9_wrestler_113 : decode cX9_wrestler 113 = .ok (.dup, 1) := by decide +kernel
theorem dX9_wrestler_114 : decode cX9_wrestler 114 = .ok (.getfield 129, 3) := by decide +kernel
theorem dX9_wrestler_117 : decode cX9_wrestler 117 = .ok (.iconst 1, 1) := by decide +kernel
theorem dX9_wrestler_118 : decode cX9_wrestler 118 = .ok (.iadd, 1) := by decide +kernel
theorem dX9_wrestler_119 : decode cX9_wrestler 119 = .ok (.putfield 129, 3) := by decide +kernel
theorem dX9_wrestler_122 : decode cX9_wrestler 122 = .ok (.aload_n 0, 1) := by decide +kernel
theorem dX9_wrestler_123 : decode cX9_wrestler 123 = .ok (.iconst 0, 1) := by decide +kernel
theorem dX9_wrestler_124 : decode cX9_wrestler 124 = .ok (.putfield 136, 3) := by decide +kernel
theorem dX9_wrestler_127 : decode cX9_wrestler 127 = .ok (.aload_n 0, 1) := by decide +kernel
theorem dX9_wrestler_128 : decode cX9_wrestler 128 = .ok (.getfield 129, 3) := by decide +kernel
theorem dX9_wrestler_131 : decode cX9_wrestler 131 = .ok (.iconst 1, 1) := by decide +kernel
theorem dX9_wrestler_132 : decode cX9_wrestler 132 = .ok (.isub, 1) := by decide +kernel
theorem dX9_wrestler_133 : decode cX9_wrestler 133 = .ok (.ireturn, 1) := by decide +kernel
theorem dX9_isOne_0 : decode cX9_isOne 0 = .ok (.iload_n 1, 1) := by decide +kernel
theorem dX9_isOne_1 : decode cX9_isOne 1 = .ok (.iconst 0, 1) := by decide +kernel
theorem dX9_isOne_2 : decode cX9_isOne 2 = .ok (.aload_n 0, 1) := by decide +kernel
theorem dX9_isOne_3 : decode cX9_isOne 3 = .ok (.getfield 129, 3) := by decide +kernel
theorem dX9_isOne_6 : decode cX9_isOne 6 = .ok (.iconst 1, 1) := by decide +kernel
theorem dX9_isOne_7 : decode cX9_isOne 7 = .ok (.isub, 1) := by decide +kernel
theorem dX9_isOne_8 : decode cX9_isOne 8 = .ok (.invokestatic 122, 3) := by decide +kernel
theorem dX9_isOne_11 : decode cX9_isOne 11 = .ok (.ireturn, 1) := by decide +kernel
theorem dX9_need_0 : decode cX9_need 0 = .ok (.aload_n 0, 1) := by decide +kernel
theorem dX9_need_1 : decode cX9_need 1 = .ok (.iload_n 2, 1) := by decide +kernel
theorem dX9_need_2 : decode cX9_need 2 = .ok (.invokevirtual 139, 3) := by decide +kernel
theorem dX9_need_5 : decode cX9_need 5 = .ok (.ifCond .eq 7, 3) := by decide +kernel
theorem dX9_need_8 : decode cX9_need 8 = .ok (.iload_n 1, 1) := by decide +kernel
theorem dX9_need_9 : decode cX9_need 9 = .ok (.ifCond .ne 7, 3) := by decide +kernel
theorem dX9_need_12 : decode cX9_need 12 = .ok (.iconst (-1), 1) := by decide +kernel
theorem dX9_need_13 : decode cX9_need 13 = .ok (.goto 21, 3) := by decide +kernel
theorem dX9_need_16 : decode cX9_need 16 = .ok (.aload_n 0, 1) := by decide +kernel
theorem dX9_need_17 : decode cX9_need 17 = .ok (.getfield 22, 3) := by decide +kernel
theorem dX9_need_20 : decode cX9_need 20 = .ok (.iload_n 2, 1) := by decide +kernel
theorem dX9_need_21 : decode cX9_need 21 = .ok (.baload, 1) := by decide +kernel
theorem dX9_need_22 : decode cX9_need 22 = .ok (.ifCond .eq 11, 3) := by decide +kernel
theorem dX9_need_25 : decode cX9_need 25 = .ok (.aload_n 0, 1) := by decide +kernel
theorem dX9_need_26 : decode cX9_need 26 = .ok (.iconst 1, 1) := by decide +kernel
theorem dX9_need_27 : decode cX9_need 27 = .ok (.invokevirtual 143, 3) := by decide +kernel
theorem dX9_need_30 : decode cX9_need 30 = .ok (.goto 4, 3) := by decide +kernel
theorem dX9_need_33 : decode cX9_need 33 = .ok (.iconst 0, 1) := by decide +kernel
theorem dX9_need_34 : decode cX9_need 34 = .ok (.ireturn, 1) := by decide +kernel
theorem dX9_leave_0 : decode cX9_leave 0 = .ok (.aload_n 0, 1) := by decide +kernel
theorem dX9_leave_1 : decode cX9_leave 1 = .ok (.iload_n 1, 1) := by decide +kernel
theorem dX9_leave_2 : decode cX9_leave 2 = .ok (.invokevirtual 139, 3) := by decide +kernel
theorem dX9_leave_5 : decode cX9_leave 5 = .ok (.ifCond .ne 5, 3) := by decide +kernel
theorem dX9_leave_8 : decode cX9_leave 8 = .ok (.iconst (-1), 1) := by decide +kernel
theorem dX9_leave_9 : decode cX9_leave 9 = .ok (.ireturn, 1) := by decide +kernel
theorem dX9_leave_10 : decode cX9_leave 10 = .ok (.aload_n 0, 1) := by decide +kernel
theorem dX9_leave_11 : decode cX9_leave 11 = .ok (.getfield 132, 3) := by decide +kernel
theorem dX9_leave_14 : decode cX9_leave 14 = .ok (.ifCond .eq 6, 3) := by decide +kernel
theorem dX9_leave_17 : decode cX9_leave 17 = .ok (.bipush (-4), 2) := by decide +kernel
theorem dX9_leave_19 : decode cX9_leave 19 = .ok (.ireturn, 1) := by decide +kernel
theorem dX9_leave_20 : decode cX9_leave 20 = .ok (.aload_n 0, 1) := by decide +kernel
theorem dX9_leave_21 : decode cX9_leave 21 = .ok (.getfield 22, 3) := by decide +kernel
theorem dX9_leave_24 : decode cX9_leave 24 = .ok (.iload_n 1, 1) := by decide +kernel
theorem dX9_leave_25 : decode cX9_leave 25 = .ok (.baload, 1) := by decide +kernel
theorem dX9_leave_26 : decode cX9_leave 26 = .ok (.ifCond .eq 9, 3) := by decide +kernel
theorem dX9_leave_29 : decode cX9_leave 29 = .ok (.aload_n 0, 1) := by decide +kernel
theorem dX9_leave_30 : decode cX9_leave 30 = .ok (.iconst 1, 1) := by decide +kernel
theorem dX9_leave_31 : decode cX9_leave 31 = .ok (.invokevirtual 143, 3) := by decide +kernel
theorem dX9_leave_34 : decode cX9_leave 34 = .ok (.ireturn, 1) := by decide +kernel
theorem dX9_leave_35 : decode cX9_leave 35 = .ok (.aload_n 0, 1) := by decide +kernel
theorem dX9_leave_36 : decode cX9_leave 36 = .ok (.iload_n 1, 1) := by decide +kernel
theorem dX9_leave_37 : decode cX9_leave 37 = .ok (.invokevirtual 147, 3) := by decide +kernel
theorem dX9_leave_40 : decode cX9_leave 40 = .ok (.istore_n 2, 1) := by decide +kernel
theorem dX9_leave_41 : decode cX9_leave 41 = .ok (.iload_n 2, 1) := by decide +kernel
theorem dX9_leave_42 : decode cX9_leave 42 = .ok (.istore_n 3, 1) := by decide +kernel
theorem dX9_leave_43 : decode cX9_leave 43 = .ok (.iload_n 3, 1) := by decide +kernel
theorem dX9_leave_44 : decode cX9_leave 44 = .ok (.iconst 1, 1) := by decide +kernel
theorem dX9_leave_45 : decode cX9_leave 45 = .ok (.iadd, 1) := by decide +kernel
theorem dX9_leave_46 : decode cX9_leave 46 = .ok (.aload_n 0, 1) := by decide +kernel
theorem dX9_leave_47 : decode cX9_leave 47 = .ok (.getfield 126, 3) := by decide +kernel
theorem dX9_leave_50 : decode cX9_leave 50 = .ok (.if_icmp .ge 23, 3) := by decide +kernel
theorem dX9_leave_53 : decode cX9_leave 53 = .ok (.aload_n 0, 1) := by decide +kernel
theorem dX9_leave_54 : decode cX9_leave 54 = .ok (.getfield 41, 3) := by decide +kernel
theorem dX9_leave_57 : decode cX9_leave 57 = .ok (.iload_n 3, 1) := by decide +kernel
theorem dX9_leave_58 : decode cX9_leave 58 = .ok (.aload_n 0, 1) := by decide +kernel
theorem dX9_leave_59 : decode cX9_leave 59 = .ok (.getfield 41, 3) := by decide +kernel
theorem dX9_leave_62 : decode cX9_leave 62 = .ok (.iload_n 3, 1) := by decide +kernel
theorem dX9_leave_63 : decode cX9_leave 63 = .ok (.iconst 1, 1) := by decide +kernel
theorem dX9_leave_64 : decode cX9_leave 64 = .ok (.iadd, 1) := by decide +kernel
theorem dX9_leave_65 : decode cX9_leave 65 = .ok (.iaload, 1) := by decide +kernel
theorem dX9_leave_66 : decode cX9_leave 66 = .ok (.iastore, 1) := by decide +kernel
theorem dX9_leave_67 : decode cX9_leave 67 = .ok (.iinc 3 1, 3) := by decide +kernel
theorem dX9_leave_70 : decode cX9_leave 70 = .ok (.goto (-27), 3) := by decide +kernel
theorem dX9_leave_73 : decode cX9_leave 73 = .ok (.aload_n 0, 1) := by decide +kernel
theorem dX9_leave_74 : decode cX9_leave 74 = .ok (.dup, 1) := by decide +kernel
theorem dX9_leave_75 : decode cX9_leave 75 = .ok (.getfield 126, 3) := by decide +kernel
theorem dX9_leave_78 : decode cX9_leave 78 = .ok (.iconst 1, 1) := by decide +kernel
theorem dX9_leave_79 : decode cX9_leave 79 = .ok (.isub, 1) := by decide +kernel
theorem dX9_leave_80 : decode cX9_leave 80 = .ok (.putfield 126, 3) := by decide +kernel
theorem dX9_leave_83 : decode cX9_leave 83 = .ok (.aload_n 0, 1) := by decide +kernel
theorem dX9_leave_84 : decode cX9_leave 84 = .ok (.getfield 22, 3) := by decide +kernel
theorem dX9_leave_87 : decode cX9_leave 87 = .ok (.iload_n 1, 1) := by decide +kernel
theorem dX9_leave_88 : decode cX9_leave 88 = .ok (.iconst 1, 1) := by decide +kernel
theorem dX9_leave_89 : decode cX9_leave 89 = .ok (.bastore, 1) := by decide +kernel
theorem dX9_leave_90 : decode cX9_leave 90 = .ok (.aload_n 0, 1) := by decide +kernel
theorem dX9_leave_91 : decode cX9_leave 91 = .ok (.iconst 0, 1) := by decide +kernel
theorem dX9_leave_92 : decode cX9_leave 92 = .ok (.putfield 136, 3) := by decide +kernel
theorem dX9_leave_95 : decode cX9_leave 95 = .ok (.iload_n 2, 1) := by decide +kernel
theorem dX9_leave_96 : decode cX9_leave 96 = .ok (.ireturn, 1) := by decide +kernel
theorem dX9_toldOf_0 : decode cX9_toldOf 0 = .ok (.iload_n 2, 1) := by decide +kernel
theorem dX9_toldOf_1 : decode cX9_toldOf 1 = .ok (.tableswitch 80 0 5 #[39, 46, 53, 60, 66, 73], 39) := by decide +kernel
theorem dX9_toldOf_40 : decode cX9_toldOf 40 = .ok (.aload_n 0, 1) := by decide +kernel
theorem dX9_toldOf_41 : decode cX9_toldOf 41 = .ok (.getfield 13, 3) := by decide +kernel
theorem dX9_toldOf_44 : decode cX9_toldOf 44 = .ok (.iload_n 1, 1) := by decide +kernel
theorem dX9_toldOf_45 : decode cX9_toldOf 45 = .ok (.iaload, 1) := by decide +kernel
theorem dX9_toldOf_46 : decode cX9_toldOf 46 = .ok (.ireturn, 1) := by decide +kernel
theorem dX9_toldOf_47 : decode cX9_toldOf 47 = .ok (.aload_n 0, 1) := by decide +kernel
theorem dX9_toldOf_48 : decode cX9_toldOf 48 = .ok (.getfield 16, 3) := by decide +kernel
theorem dX9_toldOf_51 : decode cX9_toldOf 51 = .ok (.iload_n 1, 1) := by decide +kernel
theorem dX9_toldOf_52 : decode cX9_toldOf 52 = .ok (.iaload, 1) := by decide +kernel
theorem dX9_toldOf_53 : decode cX9_toldOf 53 = .ok (.ireturn, 1) := by decide +kernel
theorem dX9_toldOf_54 : decode cX9_toldOf 54 = .ok (.aload_n 0, 1) := by decide +kernel
theorem dX9_toldOf_55 : decode cX9_toldOf 55 = .ok (.getfield 19, 3) := by decide +kernel
theorem dX9_toldOf_58 : decode cX9_toldOf 58 = .ok (.iload_n 1, 1) := by decide +kernel
theorem dX9_toldOf_59 : decode cX9_toldOf 59 = .ok (.iaload, 1) := by decide +kernel
theorem dX9_toldOf_60 : decode cX9_toldOf 60 = .ok (.ireturn, 1) := by decide +kernel
theorem dX9_toldOf_61 : decode cX9_toldOf 61 = .ok (.aload_n 0, 1) := by decide +kernel
theorem dX9_toldOf_62 : decode cX9_toldOf 62 = .ok (.iload_n 1, 1) := by decide +kernel
theorem dX9_toldOf_63 : decode cX9_toldOf 63 = .ok (.invokevirtual 147, 3) := by decide +kernel
theorem dX9_toldOf_66 : decode cX9_toldOf 66 = .ok (.ireturn, 1) := by decide +kernel
theorem dX9_toldOf_67 : decode cX9_toldOf 67 = .ok (.aload_n 0, 1) := by decide +kernel
theorem dX9_toldOf_68 : decode cX9_toldOf 68 = .ok (.getfield 29, 3) := by decide +kernel
theorem dX9_toldOf_71 : decode cX9_toldOf 71 = .ok (.iload_n 1, 1) := by decide +kernel
theorem dX9_toldOf_72 : decode cX9_toldOf 72 = .ok (.iaload, 1) := by decide +kernel
theorem dX9_toldOf_73 : decode cX9_toldOf 73 = .ok (.ireturn, 1) := by decide +kernel
theorem dX9_toldOf_74 : decode cX9_toldOf 74 = .ok (.aload_n 0, 1) := by decide +kernel
theorem dX9_toldOf_75 : decode cX9_toldOf 75 = .ok (.getfield 32, 3) := by decide +kernel
theorem dX9_toldOf_78 : decode cX9_toldOf 78 = .ok (.iload_n 1, 1) := by decide +kernel
theorem dX9_toldOf_79 : decode cX9_toldOf 79 = .ok (.iaload, 1) := by decide +kernel
theorem dX9_toldOf_80 : decode cX9_toldOf 80 = .ok (.ireturn, 1) := by decide +kernel
theorem dX9_toldOf_81 : decode cX9_toldOf 81 = .ok (.aload_n 0, 1) := by decide +kernel
theorem dX9_toldOf_82 : decode cX9_toldOf 82 = .ok (.getfield 35, 3) := by decide +kernel
theorem dX9_toldOf_85 : decode cX9_toldOf 85 = .ok (.iload_n 1, 1) := by decide +kernel
theorem dX9_toldOf_86 : decode cX9_toldOf 86 = .ok (.iaload, 1) := by decide +kernel
theorem dX9_toldOf_87 : decode cX9_toldOf 87 = .ok (.ireturn, 1) := by decide +kernel
theorem dX9_told_0 : decode cX9_told 0 = .ok (.aload_n 0, 1) := by decide +kernel
theorem dX9_told_1 : decode cX9_told 1 = .ok (.iload_n 2, 1) := by decide +kernel
theorem dX9_told_2 : decode cX9_told 2 = .ok (.iconst 0, 1) := by decide +kernel
theorem dX9_told_3 : decode cX9_told 3 = .ok (.bipush 6, 2) := by decide +kernel
theorem dX9_told_5 : decode cX9_told 5 = .ok (.invokestatic 122, 3) := by decide +kernel
theorem dX9_told_8 : decode cX9_told 8 = .ok (.iload_n 1, 1) := by decide +kernel
theorem dX9_told_9 : decode cX9_told 9 = .ok (.invokevirtual 150, 3) := by decide +kernel
theorem dX9_told_12 : decode cX9_told 12 = .ok (.istore_n 3, 1) := by decide +kernel
