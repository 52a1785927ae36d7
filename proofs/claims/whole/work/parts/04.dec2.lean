theorem dX9_told_13 : decode cX9_told 13 = .ok (.iload_n 3, 1) := by decide +kernel
theorem dX9_told_14 : decode cX9_told 14 = .ok (.ifCond .ge 7, 3) := by decide +kernel
theorem dX9_told_17 : decode cX9_told 17 = .ok (.iload_n 3, 1) := by decide +kernel
theorem dX9_told_18 : decode cX9_told 18 = .ok (.goto 9, 3) := by decide +kernel
theorem dX9_told_21 : decode cX9_told 21 = .ok (.aload_n 0, 1) := by decide +kernel
theorem dX9_told_22 : decode cX9_told 22 = .ok (.iload_n 1, 1) := by decide +kernel
theorem dX9_told_23 : decode cX9_told 23 = .ok (.iload_n 2, 1) := by decide +kernel
theorem dX9_told_24 : decode cX9_told 24 = .ok (.invokevirtual 154, 3) := by decide +kernel
theorem dX9_told_27 : decode cX9_told 27 = .ok (.ireturn, 1) := by decide +kernel
theorem dX9_is_0 : decode cX9_is 0 = .ok (.aload_n 0, 1) := by decide +kernel
theorem dX9_is_1 : decode cX9_is 1 = .ok (.iload_n 2, 1) := by decide +kernel
theorem dX9_is_2 : decode cX9_is 2 = .ok (.iconst 0, 1) := by decide +kernel
theorem dX9_is_3 : decode cX9_is 3 = .ok (.iconst 2, 1) := by decide +kernel
theorem dX9_is_4 : decode cX9_is 4 = .ok (.invokestatic 122, 3) := by decide +kernel
theorem dX9_is_7 : decode cX9_is 7 = .ok (.iload_n 1, 1) := by decide +kernel
theorem dX9_is_8 : decode cX9_is 8 = .ok (.invokevirtual 150, 3) := by decide +kernel
theorem dX9_is_11 : decode cX9_is 11 = .ok (.istore_n 3, 1) := by decide +kernel
theorem dX9_is_12 : decode cX9_is 12 = .ok (.iload_n 3, 1) := by decide +kernel
theorem dX9_is_13 : decode cX9_is 13 = .ok (.ifCond .ge 7, 3) := by decide +kernel
theorem dX9_is_16 : decode cX9_is 16 = .ok (.iload_n 3, 1) := by decide +kernel
theorem dX9_is_17 : decode cX9_is 17 = .ok (.goto 22, 3) := by decide +kernel
theorem dX9_is_20 : decode cX9_is 20 = .ok (.iload_n 2, 1) := by decide +kernel
theorem dX9_is_21 : decode cX9_is 21 = .ok (.ifCond .eq 13, 3) := by decide +kernel
theorem dX9_is_24 : decode cX9_is 24 = .ok (.aload_n 0, 1) := by decide +kernel
theorem dX9_is_25 : decode cX9_is 25 = .ok (.getfield 13, 3) := by decide +kernel
theorem dX9_is_28 : decode cX9_is 28 = .ok (.iload_n 1, 1) := by decide +kernel
theorem dX9_is_29 : decode cX9_is 29 = .ok (.iaload, 1) := by decide +kernel
theorem dX9_is_30 : decode cX9_is 30 = .ok (.iload_n 2, 1) := by decide +kernel
theorem dX9_is_31 : decode cX9_is 31 = .ok (.if_icmp .ne 7, 3) := by decide +kernel
theorem dX9_is_34 : decode cX9_is 34 = .ok (.iconst 1, 1) := by decide +kernel
theorem dX9_is_35 : decode cX9_is 35 = .ok (.goto 4, 3) := by decide +kernel
theorem dX9_is_38 : decode cX9_is 38 = .ok (.iconst 0, 1) := by decide +kernel
theorem dX9_is_39 : decode cX9_is 39 = .ok (.ireturn, 1) := by decide +kernel
theorem dX9_on_0 : decode cX9_on 0 = .ok (.iload_n 1, 1) := by decide +kernel
theorem dX9_on_1 : decode cX9_on 1 = .ok (.iconst 0, 1) := by decide +kernel
theorem dX9_on_2 : decode cX9_on 2 = .ok (.aload_n 0, 1) := by decide +kernel
theorem dX9_on_3 : decode cX9_on 3 = .ok (.getfield 126, 3) := by decide +kernel
theorem dX9_on_6 : decode cX9_on 6 = .ok (.iconst 1, 1) := by decide +kernel
theorem dX9_on_7 : decode cX9_on 7 = .ok (.isub, 1) := by decide +kernel
theorem dX9_on_8 : decode cX9_on 8 = .ok (.invokestatic 122, 3) := by decide +kernel
theorem dX9_on_11 : decode cX9_on 11 = .ok (.ifCond .eq 12, 3) := by decide +kernel
theorem dX9_on_14 : decode cX9_on 14 = .ok (.aload_n 0, 1) := by decide +kernel
theorem dX9_on_15 : decode cX9_on 15 = .ok (.getfield 41, 3) := by decide +kernel
theorem dX9_on_18 : decode cX9_on 18 = .ok (.iload_n 1, 1) := by decide +kernel
theorem dX9_on_19 : decode cX9_on 19 = .ok (.iaload, 1) := by decide +kernel
theorem dX9_on_20 : decode cX9_on 20 = .ok (.goto 5, 3) := by decide +kernel
theorem dX9_on_23 : decode cX9_on 23 = .ok (.bipush (-9), 2) := by decide +kernel
theorem dX9_on_25 : decode cX9_on 25 = .ok (.ireturn, 1) := by decide +kernel
theorem dX9_mark_0 : decode cX9_mark 0 = .ok (.aload_n 0, 1) := by decide +kernel
theorem dX9_mark_1 : decode cX9_mark 1 = .ok (.iload_n 2, 1) := by decide +kernel
theorem dX9_mark_2 : decode cX9_mark 2 = .ok (.iconst 1, 1) := by decide +kernel
theorem dX9_mark_3 : decode cX9_mark 3 = .ok (.iconst 2, 1) := by decide +kernel
theorem dX9_mark_4 : decode cX9_mark 4 = .ok (.invokestatic 122, 3) := by decide +kernel
theorem dX9_mark_7 : decode cX9_mark 7 = .ok (.iload_n 1, 1) := by decide +kernel
theorem dX9_mark_8 : decode cX9_mark 8 = .ok (.invokevirtual 150, 3) := by decide +kernel
theorem dX9_mark_11 : decode cX9_mark 11 = .ok (.istore_n 3, 1) := by decide +kernel
theorem dX9_mark_12 : decode cX9_mark 12 = .ok (.iload_n 3, 1) := by decide +kernel
theorem dX9_mark_13 : decode cX9_mark 13 = .ok (.ifCond .ge 7, 3) := by decide +kernel
theorem dX9_mark_16 : decode cX9_mark 16 = .ok (.iload_n 3, 1) := by decide +kernel
theorem dX9_mark_17 : decode cX9_mark 17 = .ok (.goto 27, 3) := by decide +kernel
theorem dX9_mark_20 : decode cX9_mark 20 = .ok (.aload_n 0, 1) := by decide +kernel
theorem dX9_mark_21 : decode cX9_mark 21 = .ok (.getfield 13, 3) := by decide +kernel
theorem dX9_mark_24 : decode cX9_mark 24 = .ok (.iload_n 1, 1) := by decide +kernel
theorem dX9_mark_25 : decode cX9_mark 25 = .ok (.iaload, 1) := by decide +kernel
theorem dX9_mark_26 : decode cX9_mark 26 = .ok (.iload_n 2, 1) := by decide +kernel
theorem dX9_mark_27 : decode cX9_mark 27 = .ok (.if_icmp .ne 12, 3) := by decide +kernel
theorem dX9_mark_30 : decode cX9_mark 30 = .ok (.aload_n 0, 1) := by decide +kernel
theorem dX9_mark_31 : decode cX9_mark 31 = .ok (.getfield 38, 3) := by decide +kernel
theorem dX9_mark_34 : decode cX9_mark 34 = .ok (.iload_n 1, 1) := by decide +kernel
theorem dX9_mark_35 : decode cX9_mark 35 = .ok (.iaload, 1) := by decide +kernel
theorem dX9_mark_36 : decode cX9_mark 36 = .ok (.goto 8, 3) := by decide +kernel
theorem dX9_mark_39 : decode cX9_mark 39 = .ok (.aload_n 0, 1) := by decide +kernel
theorem dX9_mark_40 : decode cX9_mark 40 = .ok (.iconst 3, 1) := by decide +kernel
theorem dX9_mark_41 : decode cX9_mark 41 = .ok (.invokevirtual 143, 3) := by decide +kernel
theorem dX9_mark_44 : decode cX9_mark 44 = .ok (.ireturn, 1) := by decide +kernel
theorem dX9_mean_0 : decode cX9_mean 0 = .ok (.iload_n 1, 1) := by decide +kernel
theorem dX9_mean_1 : decode cX9_mean 1 = .ok (.iconst 0, 1) := by decide +kernel
theorem dX9_mean_2 : decode cX9_mean 2 = .ok (.bipush 7, 2) := by decide +kernel
theorem dX9_mean_4 : decode cX9_mean 4 = .ok (.invokestatic 122, 3) := by decide +kernel
theorem dX9_mean_7 : decode cX9_mean 7 = .ok (.ifCond .ne 5, 3) := by decide +kernel
theorem dX9_mean_10 : decode cX9_mean 10 = .ok (.iconst (-1), 1) := by decide +kernel
theorem dX9_mean_11 : decode cX9_mean 11 = .ok (.ireturn, 1) := by decide +kernel
theorem dX9_mean_12 : decode cX9_mean 12 = .ok (.iconst 0, 1) := by decide +kernel
theorem dX9_mean_13 : decode cX9_mean 13 = .ok (.istore_n 2, 1) := by decide +kernel
theorem dX9_mean_14 : decode cX9_mean 14 = .ok (.iconst 0, 1) := by decide +kernel
theorem dX9_mean_15 : decode cX9_mean 15 = .ok (.istore_n 3, 1) := by decide +kernel
theorem dX9_mean_16 : decode cX9_mean 16 = .ok (.iconst 0, 1) := by decide +kernel
theorem dX9_mean_17 : decode cX9_mean 17 = .ok (.istore 4, 2) := by decide +kernel
theorem dX9_mean_19 : decode cX9_mean 19 = .ok (.iload 4, 2) := by decide +kernel
theorem dX9_mean_21 : decode cX9_mean 21 = .ok (.aload_n 0, 1) := by decide +kernel
theorem dX9_mean_22 : decode cX9_mean 22 = .ok (.getfield 129, 3) := by decide +kernel
theorem dX9_mean_25 : decode cX9_mean 25 = .ok (.if_icmp .ge 69, 3) := by decide +kernel
theorem dX9_mean_28 : decode cX9_mean 28 = .ok (.aload_n 0, 1) := by decide +kernel
theorem dX9_mean_29 : decode cX9_mean 29 = .ok (.getfield 22, 3) := by decide +kernel
theorem dX9_mean_32 : decode cX9_mean 32 = .ok (.iload 4, 2) := by decide +kernel
theorem dX9_mean_34 : decode cX9_mean 34 = .ok (.baload, 1) := by decide +kernel
theorem dX9_mean_35 : decode cX9_mean 35 = .ok (.ifCond .ne 18, 3) := by decide +kernel
theorem dX9_mean_38 : decode cX9_mean 38 = .ok (.aload_n 0, 1) := by decide +kernel
theorem dX9_mean_39 : decode cX9_mean 39 = .ok (.getfield 16, 3) := by decide +kernel
theorem dX9_mean_42 : decode cX9_mean 42 = .ok (.iload 4, 2) := by decide +kernel
theorem dX9_mean_44 : decode cX9_mean 44 = .ok (.iaload, 1) := by decide +kernel
theorem dX9_mean_45 : decode cX9_mean 45 = .ok (.iload_n 1, 1) := by decide +kernel
theorem dX9_mean_46 : decode cX9_mean 46 = .ok (.if_icmp .ne 7, 3) := by decide +kernel
theorem dX9_mean_49 : decode cX9_mean 49 = .ok (.iconst 1, 1) := by decide +kernel
theorem dX9_mean_50 : decode cX9_mean 50 = .ok (.goto 4, 3) := by decide +kernel
theorem dX9_mean_53 : decode cX9_mean 53 = .ok (.iconst 0, 1) := by decide +kernel
theorem dX9_mean_54 : decode cX9_mean 54 = .ok (.istore 5, 2) := by decide +kernel
theorem dX9_mean_56 : decode cX9_mean 56 = .ok (.iload_n 2, 1) := by decide +kernel
theorem dX9_mean_57 : decode cX9_mean 57 = .ok (.iload 5, 2) := by decide +kernel
theorem dX9_mean_59 : decode cX9_mean 59 = .ok (.ifCond .eq 13, 3) := by decide +kernel
theorem dX9_mean_62 : decode cX9_mean 62 = .ok (.aload_n 0, 1) := by decide +kernel
theorem dX9_mean_63 : decode cX9_mean 63 = .ok (.getfield 29, 3) := by decide +kernel
theorem dX9_mean_66 : decode cX9_mean 66 = .ok (.iload 4, 2) := by decide +kernel
theorem dX9_mean_68 : decode cX9_mean 68 = .ok (.iaload, 1) := by decide +kernel
theorem dX9_mean_69 : decode cX9_mean 69 = .ok (.goto 4, 3) := by decide +kernel
theorem dX9_mean_72 : decode cX9_mean 72 = .ok (.iconst 0, 1) := by decide +kernel
theorem dX9_mean_73 : decode cX9_mean 73 = .ok (.iadd, 1) := by decide +kernel
theorem dX9_mean_74 : decode cX9_mean 74 = .ok (.istore_n 2, 1) := by decide +kernel
theorem dX9_mean_75 : decode cX9_mean 75 = .ok (.iload_n 3, 1) := by decide +kernel
theorem dX9_mean_76 : decode cX9_mean 76 = .ok (.iload 5, 2) := by decide +kernel
theorem dX9_mean_78 : decode cX9_mean 78 = .ok (.ifCond .eq 7, 3) := by decide +kernel
theorem dX9_mean_81 : decode cX9_mean 81 = .ok (.iconst 1, 1) := by decide +kernel
theorem dX9_mean_82 : decode cX9_mean 82 = .ok (.goto 4, 3) := by decide +kernel
theorem dX9_mean_85 : decode cX9_mean 85 = .ok (.iconst 0, 1) := by decide +kernel
theorem dX9_mean_86 : decode cX9_mean 86 = .ok (.iadd, 1) := by decide +kernel
theorem dX9_mean_87 : decode cX9_mean 87 = .ok (.istore_n 3, 1) := by decide +kernel
theorem dX9_mean_88 : decode cX9_mean 88 = .ok (.iinc 4 1, 3) := by decide +kernel
theorem dX9_mean_91 : decode cX9_mean 91 = .ok (.goto (-72), 3) := by decide +kernel
theorem dX9_mean_94 : decode cX9_mean 94 = .ok (.iload_n 3, 1) := by decide +kernel
theorem dX9_mean_95 : decode cX9_mean 95 = .ok (.ifCond .ne 11, 3) := by decide +kernel
theorem dX9_mean_98 : decode cX9_mean 98 = .ok (.aload_n 0, 1) := by decide +kernel
theorem dX9_mean_99 : decode cX9_mean 99 = .ok (.iconst 4, 1) := by decide +kernel
theorem dX9_mean_100 : decode cX9_mean 100 = .ok (.invokevirtual 143, 3) := by decide +kernel
theorem dX9_mean_103 : decode cX9_mean 103 = .ok (.goto 6, 3) := by decide +kernel
theorem dX9_mean_106 : decode cX9_mean 106 = .ok (.iload_n 2, 1) := by decide +kernel
theorem dX9_mean_107 : decode cX9_mean 107 = .ok (.iload_n 3, 1) := by decide +kernel
theorem dX9_mean_108 : decode cX9_mean 108 = .ok (.idiv, 1) := by decide +kernel
theorem dX9_mean_109 : decode cX9_mean 109 = .ok (.ireturn, 1) := by decide +kernel
theorem dX9_isSheet_0 : decode cX9_isSheet 0 = .ok (.iload_n 0, 1) := by decide +kernel
theorem dX9_isSheet_1 : decode cX9_isSheet 1 = .ok (.iconst 0, 1) := by decide +kernel
theorem dX9_isSheet_2 : decode cX9_isSheet 2 = .ok (.iconst 3, 1) := by decide +kernel
theorem dX9_isSheet_3 : decode cX9_isSheet 3 = .ok (.invokestatic 122, 3) := by decide +kernel
theorem dX9_isSheet_6 : decode cX9_isSheet 6 = .ok (.ireturn, 1) := by decide +kernel
theorem dX9_sheet_0 : decode cX9_sheet 0 = .ok (.iload_n 1, 1) := by decide +kernel
theorem dX9_sheet_1 : decode cX9_sheet 1 = .ok (.invokestatic 158, 3) := by decide +kernel
theorem dX9_sheet_4 : decode cX9_sheet 4 = .ok (.ifCond .eq 9, 3) := by decide +kernel
theorem dX9_sheet_7 : decode cX9_sheet 7 = .ok (.iload_n 2, 1) := by decide +kernel
theorem dX9_sheet_8 : decode cX9_sheet 8 = .ok (.bipush 16, 2) := by decide +kernel
theorem dX9_sheet_10 : decode cX9_sheet 10 = .ok (.if_icmp .le 5, 3) := by decide +kernel
theorem dX9_sheet_13 : decode cX9_sheet 13 = .ok (.iconst (-1), 1) := by decide +kernel
theorem dX9_sheet_14 : decode cX9_sheet 14 = .ok (.ireturn, 1) := by decide +kernel
theorem dX9_sheet_15 : decode cX9_sheet 15 = .ok (.iload_n 2, 1) := by decide +kernel
theorem dX9_sheet_16 : decode cX9_sheet 16 = .ok (.ifCond .ge 9, 3) := by decide +kernel
theorem dX9_sheet_19 : decode cX9_sheet 19 = .ok (.aload_n 0, 1) := by decide +kernel
theorem dX9_sheet_20 : decode cX9_sheet 20 = .ok (.iconst 5, 1) := by decide +kernel
theorem dX9_sheet_21 : decode cX9_sheet 21 = .ok (.invokevirtual 143, 3) := by decide +kernel
theorem dX9_sheet_24 : decode cX9_sheet 24 = .ok (.ireturn, 1) := by decide +kernel
theorem dX9_sheet_25 : decode cX9_sheet 25 = .ok (.aload_n 0, 1) := by decide +kernel
theorem dX9_sheet_26 : decode cX9_sheet 26 = .ok (.getfield 44, 3) := by decide +kernel
theorem dX9_sheet_29 : decode cX9_sheet 29 = .ok (.iload_n 1, 1) := by decide +kernel
theorem dX9_sheet_30 : decode cX9_sheet 30 = .ok (.iload_n 2, 1) := by decide +kernel
theorem dX9_sheet_31 : decode cX9_sheet 31 = .ok (.iastore, 1) := by decide +kernel
theorem dX9_sheet_32 : decode cX9_sheet 32 = .ok (.iconst 0, 1) := by decide +kernel
theorem dX9_sheet_33 : decode cX9_sheet 33 = .ok (.istore_n 3, 1) := by decide +kernel
theorem dX9_sheet_34 : decode cX9_sheet 34 = .ok (.iload_n 3, 1) := by decide +kernel
theorem dX9_sheet_35 : decode cX9_sheet 35 = .ok (.bipush 16, 2) := by decide +kernel
theorem dX9_sheet_37 : decode cX9_sheet 37 = .ok (.if_icmp .ge 21, 3) := by decide +kernel
theorem dX9_sheet_40 : decode cX9_sheet 40 = .ok (.aload_n 0, 1) := by decide +kernel
theorem dX9_sheet_41 : decode cX9_sheet 41 = .ok (.getfield 47, 3) := by decide +kernel
theorem dX9_sheet_44 : decode cX9_sheet 44 = .ok (.bipush 16, 2) := by decide +kernel
theorem dX9_sheet_46 : decode cX9_sheet 46 = .ok (.iload_n 1, 1) := by decide +kernel
theorem dX9_sheet_47 : decode cX9_sheet 47 = .ok (.imul, 1) := by decide +kernel
theorem dX9_sheet_48 : decode cX9_sheet 48 = .ok (.iload_n 3, 1) := by decide +kernel
theorem dX9_sheet_49 : decode cX9_sheet 49 = .ok (.iadd, 1) := by decide +kernel
theorem dX9_sheet_50 : decode cX9_sheet 50 = .ok (.iconst 0, 1) := by decide +kernel
theorem dX9_sheet_51 : decode cX9_sheet 51 = .ok (.bastore, 1) := by decide +kernel
theorem dX9_sheet_52 : decode cX9_sheet 52 = .ok (.iinc 3 1, 3) := by decide +kernel
theorem dX9_sheet_55 : decode cX9_sheet 55 = .ok (.goto (-21), 3) := by decide +kernel
theorem dX9_sheet_58 : decode cX9_sheet 58 = .ok (.iload_n 2, 1) := by decide +kernel
theorem dX9_sheet_59 : decode cX9_sheet 59 = .ok (.ireturn, 1) := by decide +kernel
theorem dX9_lay_0 : decode cX9_lay 0 = .ok (.iload_n 1, 1) := by decide +kernel
theorem dX9_lay_1 : decode cX9_lay 1 = .ok (.invokestatic 158, 3) := by decide +kernel
theorem dX9_lay_4 : decode cX9_lay 4 = .ok (.ifCond .ne 5, 3) := by decide +kernel
theorem dX9_lay_7 : decode cX9_lay 7 = .ok (.iconst (-1), 1) := by decide +kernel
theorem dX9_lay_8 : decode cX9_lay 8 = .ok (.ireturn, 1) := by decide +kernel
theorem dX9_lay_9 : decode cX9_lay 9 = .ok (.aload_n 0, 1) := by decide +kernel
theorem dX9_lay_10 : decode cX9_lay 10 = .ok (.getfield 44, 3) := by decide +kernel
theorem dX9_lay_13 : decode cX9_lay 13 = .ok (.iload_n 1, 1) := by decide +kernel
theorem dX9_lay_14 : decode cX9_lay 14 = .ok (.iaload, 1) := by decide +kernel
theorem dX9_lay_15 : decode cX9_lay 15 = .ok (.ifCond .ge 9, 3) := by decide +kernel
theorem dX9_lay_18 : decode cX9_lay 18 = .ok (.aload_n 0, 1) := by decide +kernel
theorem dX9_lay_19 : decode cX9_lay 19 = .ok (.iconst 1, 1) := by decide +kernel
theorem dX9_lay_20 : decode cX9_lay 20 = .ok (.invokevirtual 143, 3) := by decide +kernel
theorem dX9_lay_23 : decode cX9_lay 23 = .ok (.ireturn, 1) := by decide +kernel
theorem dX9_lay_24 : decode cX9_lay 24 = .ok (.iload_n 2, 1) := by decide +kernel
theorem dX9_lay_25 : decode cX9_lay 25 = .ok (.iconst 0, 1) := by decide +kernel
theorem dX9_lay_26 : decode cX9_lay 26 = .ok (.aload_n 0, 1) := by decide +kernel
theorem dX9_lay_27 : decode cX9_lay 27 = .ok (.getfield 44, 3) := by decide +kernel
theorem dX9_lay_30 : decode cX9_lay 30 = .ok (.iload_n 1, 1) := by decide +kernel
theorem dX9_lay_31 : decode cX9_lay 31 = .ok (.iaload, 1) := by decide +kernel
theorem dX9_lay_32 : decode cX9_lay 32 = .ok (.iconst 1, 1) := by decide +kernel
theorem dX9_lay_33 : decode cX9_lay 33 = .ok (.isub, 1) := by decide +kernel
theorem dX9_lay_34 : decode cX9_lay 34 = .ok (.invokestatic 122, 3) := by decide +kernel
theorem dX9_lay_37 : decode cX9_lay 37 = .ok (.ifCond .ne 9, 3) := by decide +kernel
theorem dX9_lay_40 : decode cX9_lay 40 = .ok (.aload_n 0, 1) := by decide +kernel
theorem dX9_lay_41 : decode cX9_lay 41 = .ok (.iconst 2, 1) := by decide +kernel
theorem dX9_lay_42 : decode cX9_lay 42 = .ok (.invokevirtual 143, 3) := by decide +kernel
theorem dX9_lay_45 : decode cX9_lay 45 = .ok (.ireturn, 1) := by decide +kernel
theorem dX9_lay_46 : decode cX9_lay 46 = .ok (.aload_n 0, 1) := by decide +kernel
theorem dX9_lay_47 : decode cX9_lay 47 = .ok (.getfield 47, 3) := by decide +kernel
theorem dX9_lay_50 : decode cX9_lay 50 = .ok (.bipush 16, 2) := by decide +kernel
theorem dX9_lay_52 : decode cX9_lay 52 = .ok (.iload_n 1, 1) := by decide +kernel
theorem dX9_lay_53 : decode cX9_lay 53 = .ok (.imul, 1) := by decide +kernel
theorem dX9_lay_54 : decode cX9_lay 54 = .ok (.iload_n 2, 1) := by decide +kernel
theorem dX9_lay_55 : decode cX9_lay 55 = .ok (.iadd, 1) := by decide +kernel
theorem dX9_lay_56 : decode cX9_lay 56 = .ok (.baload, 1) := by decide +kernel
theorem dX9_lay_57 : decode cX9_lay 57 = .ok (.istore 4, 2) := by decide +kernel
theorem dX9_lay_59 : decode cX9_lay 59 = .ok (.aload_n 0, 1) := by decide +kernel
theorem dX9_lay_60 : decode cX9_lay 60 = .ok (.getfield 47, 3) := by decide +kernel
theorem dX9_lay_63 : decode cX9_lay 63 = .ok (.bipush 16, 2) := by decide +kernel
theorem dX9_lay_65 : decode cX9_lay 65 = .ok (.iload_n 1, 1) := by decide +kernel
theorem dX9_lay_66 : decode cX9_lay 66 = .ok (.imul, 1) := by decide +kernel
theorem dX9_lay_67 : decode cX9_lay 67 = .ok (.iload_n 2, 1) := by decide +kernel
theorem dX9_lay_68 : decode cX9_lay 68 = .ok (.iadd, 1) := by decide +kernel
theorem dX9_lay_69 : decode cX9_lay 69 = .ok (.iload_n 3, 1) := by decide +kernel
theorem dX9_lay_70 : decode cX9_lay 70 = .ok (.i2b, 1) := by decide +kernel
theorem dX9_lay_71 : decode cX9_lay 71 = .ok (.bastore, 1) := by decide +kernel
theorem dX9_lay_72 : decode cX9_lay 72 = .ok (.sipush 1000, 3) := by decide +kernel
theorem dX9_lay_75 : decode cX9_lay 75 = .ok (.iload 4, 2) := by decide +kernel
theorem dX9_lay_77 : decode cX9_lay 77 = .ok (.iadd, 1) := by decide +kernel
theorem dX9_lay_78 : decode cX9_lay 78 = .ok (.ireturn, 1) := by decide +kernel
theorem dX9_tear_0 : decode cX9_tear 0 = .ok (.iload_n 1, 1) := by decide +kernel
theorem dX9_tear_1 : decode cX9_tear 1 = .ok (.invokestatic 158, 3) := by decide +kernel
theorem dX9_tear_4 : decode cX9_tear 4 = .ok (.ifCond .ne 5, 3) := by decide +kernel
theorem dX9_tear_7 : decode cX9_tear 7 = .ok (.iconst (-1), 1) := by decide +kernel
theorem dX9_tear_8 : decode cX9_tear 8 = .ok (.ireturn, 1) := by decide +kernel
theorem dX9_tear_9 : decode cX9_tear 9 = .ok (.aload_n 0, 1) := by decide +kernel
theorem dX9_tear_10 : decode cX9_tear 10 = .ok (.getfield 44, 3) := by decide +kernel
theorem dX9_tear_13 : decode cX9_tear 13 = .ok (.iload_n 1, 1) := by decide +kernel
theorem dX9_tear_14 : decode cX9_tear 14 = .ok (.iaload, 1) := by decide +kernel
theorem dX9_tear_15 : decode cX9_tear 15 = .ok (.ifCond .ge 9, 3) := by decide +kernel
theorem dX9_tear_18 : decode cX9_tear 18 = .ok (.aload_n 0, 1) := by decide +kernel
theorem dX9_tear_19 : decode cX9_tear 19 = .ok (.iconst 1, 1) := by decide +kernel
theorem dX9_tear_20 : decode cX9_tear 20 = .ok (.invokevirtual 143, 3) := by decide +kernel
theorem dX9_tear_23 : decode cX9_tear 23 = .ok (.ireturn, 1) := by decide +kernel
theorem dX9_tear_24 : decode cX9_tear 24 = .ok (.aload_n 0, 1) := by decide +kernel
theorem dX9_tear_25 : decode cX9_tear 25 = .ok (.getfield 44, 3) := by decide +kernel
theorem dX9_tear_28 : decode cX9_tear 28 = .ok (.iload_n 1, 1) := by decide +kernel
theorem dX9_tear_29 : decode cX9_tear 29 = .ok (.iconst (-1), 1) := by decide +kernel
theorem dX9_tear_30 : decode cX9_tear 30 = .ok (.iastore, 1) := by decide +kernel
theorem dX9_tear_31 : decode cX9_tear 31 = .ok (.iconst 1, 1) := by decide +kernel
theorem dX9_tear_32 : decode cX9_tear 32 = .ok (.ireturn, 1) := by decide +kernel
theorem dX9_copy_0 : decode cX9_copy 0 = .ok (.iload_n 1, 1) := by decide +kernel
theorem dX9_copy_1 : decode cX9_copy 1 = .ok (.invokestatic 158, 3) := by decide +kernel
theorem dX9_copy_4 : decode cX9_copy 4 = .ok (.ifCond .eq 10, 3) := by decide +kernel
theorem dX9_copy_7 : decode cX9_copy 7 = .ok (.iload_n 3, 1) := by decide +kernel
theorem dX9_copy_8 : decode cX9_copy 8 = .ok (.invokestatic 158, 3) := by decide +kernel
theorem dX9_copy_11 : decode cX9_copy 11 = .ok (.ifCond .ne 5, 3) := by decide +kernel
theorem dX9_copy_14 : decode cX9_copy 14 = .ok (.iconst (-1), 1) := by decide +kernel
theorem dX9_copy_15 : decode cX9_copy 15 = .ok (.ireturn, 1) := by decide +kernel
theorem dX9_copy_16 : decode cX9_copy 16 = .ok (.aload_n 0, 1) := by decide +kernel
theorem dX9_copy_17 : decode cX9_copy 17 = .ok (.getfield 44, 3) := by decide +kernel
theorem dX9_copy_20 : decode cX9_copy 20 = .ok (.iload_n 1, 1) := by decide +kernel
theorem dX9_copy_21 : decode cX9_copy 21 = .ok (.iaload, 1) := by decide +kernel
theorem dX9_copy_22 : decode cX9_copy 22 = .ok (.ifCond .lt 12, 3) := by decide +kernel
theorem dX9_copy_25 : decode cX9_copy 25 = .ok (.aload_n 0, 1) := by decide +kernel
theorem dX9_copy_26 : decode cX9_copy 26 = .ok (.getfield 44, 3) := by decide +kernel
theorem dX9_copy_29 : decode cX9_copy 29 = .ok (.iload_n 3, 1) := by decide +kernel
theorem dX9_copy_30 : decode cX9_copy 30 = .ok (.iaload, 1) := by decide +kernel
theorem dX9_copy_31 : decode cX9_copy 31 = .ok (.ifCond .ge 9, 3) := by decide +kernel
theorem dX9_copy_34 : decode cX9_copy 34 = .ok (.aload_n 0, 1) := by decide +kernel
theorem dX9_copy_35 : decode cX9_copy 35 = .ok (.iconst 1, 1) := by decide +kernel
theorem dX9_copy_36 : decode cX9_copy 36 = .ok (.invokevirtual 143, 3) := by decide +kernel
theorem dX9_copy_39 : decode cX9_copy 39 = .ok (.ireturn, 1) := by decide +kernel
theorem dX9_copy_40 : decode cX9_copy 40 = .ok (.iload_n 2, 1) := by decide +kernel
theorem dX9_copy_41 : decode cX9_copy 41 = .ok (.ifCond .lt 48, 3) := by decide +kernel
theorem dX9_copy_44 : decode cX9_copy 44 = .ok (.iload 4, 2) := by decide +kernel
theorem dX9_copy_46 : decode cX9_copy 46 = .ok (.ifCond .lt 43, 3) := by decide +kernel
theorem dX9_copy_49 : decode cX9_copy 49 = .ok (.iload 5, 2) := by decide +kernel
theorem dX9_copy_51 : decode cX9_copy 51 = .ok (.ifCond .lt 38, 3) := by decide +kernel
theorem dX9_copy_54 : decode cX9_copy 54 = .ok (.iload_n 2, 1) := by decide +kernel
theorem dX9_copy_55 : decode cX9_copy 55 = .ok (.i2l, 1) := by decide +kernel
theorem dX9_copy_56 : decode cX9_copy 56 = .ok (.iload 5, 2) := by decide +kernel
theorem dX9_copy_58 : decode cX9_copy 58 = .ok (.i2l, 1) := by decide +kernel
theorem dX9_copy_59 : decode cX9_copy 59 = .ok (.ladd, 1) := by decide +kernel
theorem dX9_copy_60 : decode cX9_copy 60 = .ok (.aload_n 0, 1) := by decide +kernel
theorem dX9_copy_61 : decode cX9_copy 61 = .ok (.getfield 44, 3) := by decide +kernel
theorem dX9_copy_64 : decode cX9_copy 64 = .ok (.iload_n 1, 1) := by decide +kernel
theorem dX9_copy_65 : decode cX9_copy 65 = .ok (.iaload, 1) := by decide +kernel
theorem dX9_copy_66 : decode cX9_copy 66 = .ok (.i2l, 1) := by decide +kernel
theorem dX9_copy_67 : decode cX9_copy 67 = .ok (.lcmp, 1) := by decide +kernel
theorem dX9_copy_68 : decode cX9_copy 68 = .ok (.ifCond .gt 21, 3) := by decide +kernel
theorem dX9_copy_71 : decode cX9_copy 71 = .ok (.iload 4, 2) := by decide +kernel
theorem dX9_copy_73 : decode cX9_copy 73 = .ok (.i2l, 1) := by decide +kernel
theorem dX9_copy_74 : decode cX9_copy 74 = .ok (.iload 5, 2) := by decide +kernel
theorem dX9_copy_76 : decode cX9_copy 76 = .ok (.i2l, 1) := by decide +kernel
theorem dX9_copy_77 : decode cX9_copy 77 = .ok (.ladd, 1) := by decide +kernel
theorem dX9_copy_78 : decode cX9_copy 78 = .ok (.aload_n 0, 1) := by decide +kernel
theorem dX9_copy_79 : decode cX9_copy 79 = .ok (.getfield 44, 3) := by decide +kernel
theorem dX9_copy_82 : decode cX9_copy 82 = .ok (.iload_n 3, 1) := by decide +kernel
theorem dX9_copy_83 : decode cX9_copy 83 = .ok (.iaload, 1) := by decide +kernel
theorem dX9_copy_84 : decode cX9_copy 84 = .ok (.i2l, 1) := by decide +kernel
theorem dX9_copy_85 : decode cX9_copy 85 = .ok (.lcmp, 1) := by decide +kernel
theorem dX9_copy_86 : decode cX9_copy 86 = .ok (.ifCond .le 9, 3) := by decide +kernel
theorem dX9_copy_89 : decode cX9_copy 89 = .ok (.aload_n 0, 1) := by decide +kernel
theorem dX9_copy_90 : decode cX9_copy 90 = .ok (.iconst 2, 1) := by decide +kernel
theorem dX9_copy_91 : decode cX9_copy 91 = .ok (.invokevirtual 143, 3) := by decide +kernel
theorem dX9_copy_94 : decode cX9_copy 94 = .ok (.ireturn, 1) := by decide +kernel
theorem dX9_copy_95 : decode cX9_copy 95 = .ok (.iconst 0, 1) := by decide +kernel
theorem dX9_copy_96 : decode cX9_copy 96 = .ok (.istore 6, 2) := by decide +kernel
theorem dX9_copy_98 : decode cX9_copy 98 = .ok (.iload 6, 2) := by decide +kernel
theorem dX9_copy_100 : decode cX9_copy 100 = .ok (.iload 5, 2) := by decide +kernel
theorem dX9_copy_102 : decode cX9_copy 102 = .ok (.if_icmp .ge 30, 3) := by decide +kernel
theorem dX9_copy_105 : decode cX9_copy 105 = .ok (.aload_n 0, 1) := by decide +kernel
theorem dX9_copy_106 : decode cX9_copy 106 = .ok (.getfield 51, 3) := by decide +kernel
theorem dX9_copy_109 : decode cX9_copy 109 = .ok (.iload 6, 2) := by decide +kernel
theorem dX9_copy_111 : decode cX9_copy 111 = .ok (.aload_n 0, 1) := by decide +kernel
theorem dX9_copy_112 : decode cX9_copy 112 = .ok (.getfield 47, 3) := by decide +kernel
theorem dX9_copy_115 : decode cX9_copy 115 = .ok (.bipush 16, 2) := by decide +kernel
theorem dX9_copy_117 : decode cX9_copy 117 = .ok (.iload_n 1, 1) := by decide +kernel
theorem dX9_copy_118 : decode cX9_copy 118 = .ok (.imul, 1) := by decide +kernel
theorem dX9_copy_119 : decode cX9_copy 119 = .ok (.iload_n 2, 1) := by decide +kernel
theorem dX9_copy_120 : decode cX9_copy 120 = .ok (.iadd, 1) := by decide +kernel
theorem dX9_copy_121 : decode cX9_copy 121 = .ok (.iload 6, 2) := by decide +kernel
theorem dX9_copy_123 : decode cX9_copy 123 = .ok (.iadd, 1) := by decide +kernel
theorem dX9_copy_124 : decode cX9_copy 124 = .ok (.baload, 1) := by decide +kernel
theorem dX9_copy_125 : decode cX9_copy 125 = .ok (.bastore, 1) := by decide +kernel
theorem dX9_copy_126 : decode cX9_copy 126 = .ok (.iinc 6 1, 3) := by decide +kernel
theorem dX9_copy_129 : decode cX9_copy 129 = .ok (.goto (-31), 3) := by decide +kernel
theorem dX9_copy_132 : decode cX9_copy 132 = .ok (.iconst 0, 1) := by decide +kernel
theorem dX9_copy_133 : decode cX9_copy 133 = .ok (.istore 6, 2) := by decide +kernel
theorem dX9_copy_135 : decode cX9_copy 135 = .ok (.iload 6, 2) := by decide +kernel
theorem dX9_copy_137 : decode cX9_copy 137 = .ok (.iload 5, 2) := by decide +kernel
theorem dX9_copy_139 : decode cX9_copy 139 = .ok (.if_icmp .ge 31, 3) := by decide +kernel
theorem dX9_copy_142 : decode cX9_copy 142 = .ok (.aload_n 0, 1) := by decide +kernel
theorem dX9_copy_143 : decode cX9_copy 143 = .ok (.getfield 47, 3) := by decide +kernel
theorem dX9_copy_146 : decode cX9_copy 146 = .ok (.bipush 16, 2) := by decide +kernel
theorem dX9_copy_148 : decode cX9_copy 148 = .ok (.iload_n 3, 1) := by decide +kernel
theorem dX9_copy_149 : decode cX9_copy 149 = .ok (.imul, 1) := by decide +kernel
theorem dX9_copy_150 : decode cX9_copy 150 = .ok (.iload 4, 2) := by decide +kernel
theorem dX9_copy_152 : decode cX9_copy 152 = .ok (.iadd, 1) := by decide +kernel
theorem dX9_copy_153 : decode cX9_copy 153 = .ok (.iload 6, 2) := by decide +kernel
theorem dX9_copy_155 : decode cX9_copy 155 = .ok (.iadd, 1) := by decide +kernel
theorem dX9_copy_156 : decode cX9_copy 156 = .ok (.aload_n 0, 1) := by decide +kernel
theorem dX9_copy_157 : decode cX9_copy 157 = .ok (.getfield 51, 3) := by decide +kernel
theorem dX9_copy_160 : decode cX9_copy 160 = .ok (.iload 6, 2) := by decide +kernel
theorem dX9_copy_162 : decode cX9_copy 162 = .ok (.baload, 1) := by decide +kernel
theorem dX9_copy_163 : decode cX9_copy 163 = .ok (.bastore, 1) := by decide +kernel
theorem dX9_copy_164 : decode cX9_copy 164 = .ok (.iinc 6 1, 3) := by decide +kernel
theorem dX9_copy_167 : decode cX9_copy 167 = .ok (.goto (-32), 3) := by decide +kernel
theorem dX9_copy_170 : decode cX9_copy 170 = .ok (.iconst 1, 1) := by decide +kernel
theorem dX9_copy_171 : decode cX9_copy 171 = .ok (.ireturn, 1) := by decide +kernel
theorem dX9_prices_0 : decode cX9_prices 0 = .ok (.iload_n 1, 1) := by decide +kernel
theorem dX9_prices_1 : decode cX9_prices 1 = .ok (.bipush (-9), 2) := by decide +kernel
theorem dX9_prices_3 : decode cX9_prices 3 = .ok (.if_icmp .eq 12, 3) := by decide +kernel
theorem dX9_prices_6 : decode cX9_prices 6 = .ok (.iload_n 1, 1) := by decide +kernel
theorem dX9_prices_7 : decode cX9_prices 7 = .ok (.invokestatic 158, 3) := by decide +kernel
theorem dX9_prices_10 : decode cX9_prices 10 = .ok (.ifCond .ne 5, 3) := by decide +kernel
theorem dX9_prices_13 : decode cX9_prices 13 = .ok (.iconst (-1), 1) := by decide +kernel
theorem dX9_prices_14 : decode cX9_prices 14 = .ok (.ireturn, 1) := by decide +kernel
theorem dX9_prices_15 : decode cX9_prices 15 = .ok (.iload_n 1, 1) := by decide +kernel
theorem dX9_prices_16 : decode cX9_prices 16 = .ok (.bipush (-9), 2) := by decide +kernel
theorem dX9_prices_18 : decode cX9_prices 18 = .ok (.if_icmp .eq 18, 3) := by decide +kernel
theorem dX9_prices_21 : decode cX9_prices 21 = .ok (.aload_n 0, 1) := by decide +kernel
theorem dX9_prices_22 : decode cX9_prices 22 = .ok (.getfield 44, 3) := by decide +kernel
theorem dX9_prices_25 : decode cX9_prices 25 = .ok (.iload_n 1, 1) := by decide +kernel
theorem dX9_prices_26 : decode cX9_prices 26 = .ok (.iaload, 1) := by decide +kernel
theorem dX9_prices_27 : decode cX9_prices 27 = .ok (.ifCond .ge 9, 3) := by decide +kernel
theorem dX9_prices_30 : decode cX9_prices 30 = .ok (.aload_n 0, 1) := by decide +kernel
theorem dX9_prices_31 : decode cX9_prices 31 = .ok (.iconst 1, 1) := by decide +kernel
theorem dX9_prices_32 : decode cX9_prices 32 = .ok (.invokevirtual 143, 3) := by decide +kernel
theorem dX9_prices_35 : decode cX9_prices 35 = .ok (.ireturn, 1) := by decide +kernel
theorem dX9_prices_36 : decode cX9_prices 36 = .ok (.aload_n 0, 1) := by decide +kernel
theorem dX9_prices_37 : decode cX9_prices 37 = .ok (.getfield 112, 3) := by decide +kernel
theorem dX9_prices_40 : decode cX9_prices 40 = .ok (.istore_n 2, 1) := by decide +kernel
theorem dX9_prices_41 : decode cX9_prices 41 = .ok (.aload_n 0, 1) := by decide +kernel
theorem dX9_prices_42 : decode cX9_prices 42 = .ok (.iload_n 1, 1) := by decide +kernel
theorem dX9_prices_43 : decode cX9_prices 43 = .ok (.putfield 112, 3) := by decide +kernel
theorem dX9_prices_46 : decode cX9_prices 46 = .ok (.iload_n 2, 1) := by decide +kernel
theorem dX9_prices_47 : decode cX9_prices 47 = .ok (.ireturn, 1) := by decide +kernel
theorem dX9_priceOf_0 : decode cX9_priceOf 0 = .ok (.aload_n 0, 1) := by decide +kernel
theorem dX9_priceOf_1 : decode cX9_priceOf 1 = .ok (.getfield 112, 3) := by decide +kernel
theorem dX9_priceOf_4 : decode cX9_priceOf 4 = .ok (.bipush (-9), 2) := by decide +kernel
theorem dX9_priceOf_6 : decode cX9_priceOf 6 = .ok (.if_icmp .eq 15, 3) := by decide +kernel
theorem dX9_priceOf_9 : decode cX9_priceOf 9 = .ok (.aload_n 0, 1) := by decide +kernel
theorem dX9_priceOf_10 : decode cX9_priceOf 10 = .ok (.getfield 44, 3) := by decide +kernel
theorem dX9_priceOf_13 : decode cX9_priceOf 13 = .ok (.aload_n 0, 1) := by decide +kernel
theorem dX9_priceOf_14 : decode cX9_priceOf 14 = .ok (.getfield 112, 3) := by decide +kernel
theorem dX9_priceOf_17 : decode cX9_priceOf 17 = .ok (.iaload, 1) := by decide +kernel
theorem dX9_priceOf_18 : decode cX9_priceOf 18 = .ok (.ifCond .ge 9, 3) := by decide +kernel
theorem dX9_priceOf_21 : decode cX9_priceOf 21 = .ok (.iconst 4, 1) := by decide +kernel
theorem dX9_priceOf_22 : decode cX9_priceOf 22 = .ok (.iload_n 1, 1) := by decide +kernel
theorem dX9_priceOf_23 : decode cX9_priceOf 23 = .ok (.imul, 1) := by decide +kernel
theorem dX9_priceOf_24 : decode cX9_priceOf 24 = .ok (.iload_n 1, 1) := by decide +kernel
theorem dX9_priceOf_25 : decode cX9_priceOf 25 = .ok (.imul, 1) := by decide +kernel
theorem dX9_priceOf_26 : decode cX9_priceOf 26 = .ok (.ireturn, 1) := by decide +kernel
theorem dX9_priceOf_27 : decode cX9_priceOf 27 = .ok (.aload_n 0, 1) := by decide +kernel
theorem dX9_priceOf_28 : decode cX9_priceOf 28 = .ok (.getfield 44, 3) := by decide +kernel
theorem dX9_priceOf_31 : decode cX9_priceOf 31 = .ok (.aload_n 0, 1) := by decide +kernel
theorem dX9_priceOf_32 : decode cX9_priceOf 32 = .ok (.getfield 112, 3) := by decide +kernel
theorem dX9_priceOf_35 : decode cX9_priceOf 35 = .ok (.iaload, 1) := by decide +kernel
theorem dX9_priceOf_36 : decode cX9_priceOf 36 = .ok (.istore_n 2, 1) := by decide +kernel
theorem dX9_priceOf_37 : decode cX9_priceOf 37 = .ok (.iload_n 2, 1) := by decide +kernel
theorem dX9_priceOf_38 : decode cX9_priceOf 38 = .ok (.ifCond .ne 5, 3) := by decide +kernel
theorem dX9_priceOf_41 : decode cX9_priceOf 41 = .ok (.iconst 0, 1) := by decide +kernel
theorem dX9_priceOf_42 : decode cX9_priceOf 42 = .ok (.ireturn, 1) := by decide +kernel
theorem dX9_priceOf_43 : decode cX9_priceOf 43 = .ok (.aload_n 0, 1) := by decide +kernel
theorem dX9_priceOf_44 : decode cX9_priceOf 44 = .ok (.getfield 47, 3) := by decide +kernel
theorem dX9_priceOf_47 : decode cX9_priceOf 47 = .ok (.bipush 16, 2) := by decide +kernel
theorem dX9_priceOf_49 : decode cX9_priceOf 49 = .ok (.aload_n 0, 1) := by decide +kernel
theorem dX9_priceOf_50 : decode cX9_priceOf 50 = .ok (.getfield 112, 3) := by decide +kernel
theorem dX9_priceOf_53 : decode cX9_priceOf 53 = .ok (.imul, 1) := by decide +kernel
theorem dX9_priceOf_54 : decode cX9_priceOf 54 = .ok (.iload_n 1, 1) := by decide +kernel
theorem dX9_priceOf_55 : decode cX9_priceOf 55 = .ok (.iload_n 2, 1) := by decide +kernel
theorem dX9_priceOf_56 : decode cX9_priceOf 56 = .ok (.if_icmp .ge 7, 3) := by decide +kernel
theorem dX9_priceOf_59 : decode cX9_priceOf 59 = .ok (.iload_n 1, 1) := by decide +kernel
theorem dX9_priceOf_60 : decode cX9_priceOf 60 = .ok (.goto 6, 3) := by decide +kernel
theorem dX9_priceOf_63 : decode cX9_priceOf 63 = .ok (.iload_n 2, 1) := by decide +kernel
theorem dX9_priceOf_64 : decode cX9_priceOf 64 = .ok (.iconst 1, 1) := by decide +kernel
theorem dX9_priceOf_65 : decode cX9_priceOf 65 = .ok (.isub, 1) := by decide +kernel
theorem dX9_priceOf_66 : decode cX9_priceOf 66 = .ok (.iadd, 1) := by decide +kernel
theorem dX9_priceOf_67 : decode cX9_priceOf 67 = .ok (.baload, 1) := by decide +kernel
theorem dX9_priceOf_68 : decode cX9_priceOf 68 = .ok (.istore_n 3, 1) := by decide +kernel
theorem dX9_priceOf_69 : decode cX9_priceOf 69 = .ok (.iload_n 3, 1) := by decide +kernel
theorem dX9_priceOf_70 : decode cX9_priceOf 70 = .ok (.ifCond .ge 7, 3) := by decide +kernel
theorem dX9_priceOf_73 : decode cX9_priceOf 73 = .ok (.iconst 0, 1) := by decide +kernel
theorem dX9_priceOf_74 : decode cX9_priceOf 74 = .ok (.goto 4, 3) := by decide +kernel
theorem dX9_priceOf_77 : decode cX9_priceOf 77 = .ok (.iload_n 3, 1) := by decide +kernel
theorem dX9_priceOf_78 : decode cX9_priceOf 78 = .ok (.ireturn, 1) := by decide +kernel
theorem dX9_price_0 : decode cX9_price 0 = .ok (.iload_n 1, 1) := by decide +kernel
theorem dX9_price_1 : decode cX9_price 1 = .ok (.iconst 0, 1) := by decide +kernel
theorem dX9_price_2 : decode cX9_price 2 = .ok (.bipush 15, 2) := by decide +kernel
theorem dX9_price_4 : decode cX9_price 4 = .ok (.invokestatic 122, 3) := by decide +kernel
theorem dX9_price_7 : decode cX9_price 7 = .ok (.ifCond .eq 11, 3) := by decide +kernel
theorem dX9_price_10 : decode cX9_price 10 = .ok (.aload_n 0, 1) := by decide +kernel
theorem dX9_price_11 : decode cX9_price 11 = .ok (.iload_n 1, 1) := by decide +kernel
theorem dX9_price_12 : decode cX9_price 12 = .ok (.invokevirtual 161, 3) := by decide +kernel
theorem dX9_price_15 : decode cX9_price 15 = .ok (.goto 4, 3) := by decide +kernel
theorem dX9_price_18 : decode cX9_price 18 = .ok (.iconst (-1), 1) := by decide +kernel
theorem dX9_price_19 : decode cX9_price 19 = .ok (.ireturn, 1) := by decide +kernel
theorem dX9_meet_0 : decode cX9_meet 0 = .ok (.iload_n 1, 1) := by decide +kernel
theorem dX9_meet_1 : decode cX9_meet 1 = .ok (.iconst 1, 1) := by decide +kernel
theorem dX9_meet_2 : decode cX9_meet 2 = .ok (.bipush 15, 2) := by decide +kernel
theorem dX9_meet_4 : decode cX9_meet 4 = .ok (.invokestatic 122, 3) := by decide +kernel
theorem dX9_meet_7 : decode cX9_meet 7 = .ok (.ifCond .ne 5, 3) := by decide +kernel
theorem dX9_meet_10 : decode cX9_meet 10 = .ok (.iconst (-1), 1) := by decide +kernel
theorem dX9_meet_11 : decode cX9_meet 11 = .ok (.ireturn, 1) := by decide +kernel
theorem dX9_meet_12 : decode cX9_meet 12 = .ok (.aload_n 0, 1) := by decide +kernel
theorem dX9_meet_13 : decode cX9_meet 13 = .ok (.getfield 132, 3) := by decide +kernel
theorem dX9_meet_16 : decode cX9_meet 16 = .ok (.ifCond .eq 6, 3) := by decide +kernel
theorem dX9_meet_19 : decode cX9_meet 19 = .ok (.bipush (-4), 2) := by decide +kernel
theorem dX9_meet_21 : decode cX9_meet 21 = .ok (.ireturn, 1) := by decide +kernel
theorem dX9_meet_22 : decode cX9_meet 22 = .ok (.aload_n 0, 1) := by decide +kernel
theorem dX9_meet_23 : decode cX9_meet 23 = .ok (.iconst 1, 1) := by decide +kernel
theorem dX9_meet_24 : decode cX9_meet 24 = .ok (.putfield 132, 3) := by decide +kernel
theorem dX9_meet_27 : decode cX9_meet 27 = .ok (.aload_n 0, 1) := by decide +kernel
theorem dX9_meet_28 : decode cX9_meet 28 = .ok (.iconst 0, 1) := by decide +kernel
theorem dX9_meet_29 : decode cX9_meet 29 = .ok (.putfield 136, 3) := by decide +kernel
theorem dX9_meet_32 : decode cX9_meet 32 = .ok (.aload_n 0, 1) := by decide +kernel
theorem dX9_meet_33 : decode cX9_meet 33 = .ok (.iload_n 1, 1) := by decide +kernel
theorem dX9_meet_34 : decode cX9_meet 34 = .ok (.putfield 164, 3) := by decide +kernel
theorem dX9_meet_37 : decode cX9_meet 37 = .ok (.aload_n 0, 1) := by decide +kernel
theorem dX9_meet_38 : decode cX9_meet 38 = .ok (.iconst 0, 1) := by decide +kernel
theorem dX9_meet_39 : decode cX9_meet 39 = .ok (.putfield 167, 3) := by decide +kernel
theorem dX9_meet_42 : decode cX9_meet 42 = .ok (.aload_n 0, 1) := by decide +kernel
theorem dX9_meet_43 : decode cX9_meet 43 = .ok (.iconst 0, 1) := by decide +kernel
theorem dX9_meet_44 : decode cX9_meet 44 = .ok (.putfield 170, 3) := by decide +kernel
theorem dX9_meet_47 : decode cX9_meet 47 = .ok (.aload_n 0, 1) := by decide +kernel
theorem dX9_meet_48 : decode cX9_meet 48 = .ok (.iconst 0, 1) := by decide +kernel
theorem dX9_meet_49 : decode cX9_meet 49 = .ok (.putfield 173, 3) := by decide +kernel
theorem dX9_meet_52 : decode cX9_meet 52 = .ok (.aload_n 0, 1) := by decide +kernel
theorem dX9_meet_53 : decode cX9_meet 53 = .ok (.iconst 0, 1) := by decide +kernel
theorem dX9_meet_54 : decode cX9_meet 54 = .ok (.putfield 176, 3) := by decide +kernel
theorem dX9_meet_57 : decode cX9_meet 57 = .ok (.iconst 0, 1) := by decide +kernel
theorem dX9_meet_58 : decode cX9_meet 58 = .ok (.istore_n 2, 1) := by decide +kernel
theorem dX9_meet_59 : decode cX9_meet 59 = .ok (.iload_n 2, 1) := by decide +kernel
theorem dX9_meet_60 : decode cX9_meet 60 = .ok (.bipush 16, 2) := by decide +kernel
theorem dX9_meet_62 : decode cX9_meet 62 = .ok (.if_icmp .ge 23, 3) := by decide +kernel
theorem dX9_meet_65 : decode cX9_meet 65 = .ok (.aload_n 0, 1) := by decide +kernel
theorem dX9_meet_66 : decode cX9_meet 66 = .ok (.getfield 29, 3) := by decide +kernel
theorem dX9_meet_69 : decode cX9_meet 69 = .ok (.iload_n 2, 1) := by decide +kernel
theorem dX9_meet_70 : decode cX9_meet 70 = .ok (.iconst 0, 1) := by decide +kernel
theorem dX9_meet_71 : decode cX9_meet 71 = .ok (.iastore, 1) := by decide +kernel
theorem dX9_meet_72 : decode cX9_meet 72 = .ok (.aload_n 0, 1) := by decide +kernel
theorem dX9_meet_73 : decode cX9_meet 73 = .ok (.getfield 32, 3) := by decide +kernel
theorem dX9_meet_76 : decode cX9_meet 76 = .ok (.iload_n 2, 1) := by decide +kernel
theorem dX9_meet_77 : decode cX9_meet 77 = .ok (.iconst 0, 1) := by decide +kernel
theorem dX9_meet_78 : decode cX9_meet 78 = .ok (.iastore, 1) := by decide +kernel
theorem dX9_meet_79 : decode cX9_meet 79 = .ok (.iinc 2 1, 3) := by decide +kernel
theorem dX9_meet_82 : decode cX9_meet 82 = .ok (.goto (-23), 3) := by decide +kernel
theorem dX9_meet_85 : decode cX9_meet 85 = .ok (.aload_n 0, 1) := by decide +kernel
theorem dX9_meet_86 : decode cX9_meet 86 = .ok (.getfield 126, 3) := by decide +kernel
theorem dX9_meet_89 : decode cX9_meet 89 = .ok (.ireturn, 1) := by decide +kernel
theorem dX9_absent_0 : decode cX9_absent 0 = .ok (.aload_n 0, 1) := by decide +kernel
theorem dX9_absent_1 : decode cX9_absent 1 = .ok (.iconst 1, 1) := by decide +kernel
theorem dX9_absent_2 : decode cX9_absent 2 = .ok (.iload_n 1, 1) := by decide +kernel
theorem dX9_absent_3 : decode cX9_absent 3 = .ok (.invokevirtual 150, 3) := by decide +kernel
theorem dX9_absent_6 : decode cX9_absent 6 = .ok (.istore_n 3, 1) := by decide +kernel
theorem dX9_absent_7 : decode cX9_absent 7 = .ok (.iload_n 3, 1) := by decide +kernel
theorem dX9_absent_8 : decode cX9_absent 8 = .ok (.ifCond .ge 5, 3) := by decide +kernel
theorem dX9_absent_11 : decode cX9_absent 11 = .ok (.iload_n 3, 1) := by decide +kernel
theorem dX9_absent_12 : decode cX9_absent 12 = .ok (.ireturn, 1) := by decide +kernel
theorem dX9_absent_13 : decode cX9_absent 13 = .ok (.aload_n 0, 1) := by decide +kernel
theorem dX9_absent_14 : decode cX9_absent 14 = .ok (.getfield 26, 3) := by decide +kernel
theorem dX9_absent_17 : decode cX9_absent 17 = .ok (.iload_n 1, 1) := by decide +kernel
theorem dX9_absent_18 : decode cX9_absent 18 = .ok (.baload, 1) := by decide +kernel
theorem dX9_absent_19 : decode cX9_absent 19 = .ok (.ifCond .eq 7, 3) := by decide +kernel
theorem dX9_absent_22 : decode cX9_absent 22 = .ok (.iconst 1, 1) := by decide +kernel
theorem dX9_absent_23 : decode cX9_absent 23 = .ok (.goto 4, 3) := by decide +kernel
theorem dX9_absent_26 : decode cX9_absent 26 = .ok (.iconst 0, 1) := by decide +kernel
theorem dX9_absent_27 : decode cX9_absent 27 = .ok (.istore 4, 2) := by decide +kernel
theorem dX9_absent_29 : decode cX9_absent 29 = .ok (.aload_n 0, 1) := by decide +kernel
theorem dX9_absent_30 : decode cX9_absent 30 = .ok (.getfield 26, 3) := by decide +kernel
theorem dX9_absent_33 : decode cX9_absent 33 = .ok (.iload_n 1, 1) := by decide +kernel
theorem dX9_absent_34 : decode cX9_absent 34 = .ok (.iload_n 2, 1) := by decide +kernel
theorem dX9_absent_35 : decode cX9_absent 35 = .ok (.bastore, 1) := by decide +kernel
theorem dX9_absent_36 : decode cX9_absent 36 = .ok (.iload 4, 2) := by decide +kernel
theorem dX9_absent_38 : decode cX9_absent 38 = .ok (.ireturn, 1) := by decide +kernel
theorem dX9_barredBits_0 : decode cX9_barredBits 0 = .ok (.aload_n 0, 1) := by decide +kernel
theorem dX9_barredBits_1 : decode cX9_barredBits 1 = .ok (.getfield 16, 3) := by decide +kernel
theorem dX9_barredBits_4 : decode cX9_barredBits 4 = .ok (.iload_n 1, 1) := by decide +kernel
theorem dX9_barredBits_5 : decode cX9_barredBits 5 = .ok (.iaload, 1) := by decide +kernel
theorem dX9_barredBits_6 : decode cX9_barredBits 6 = .ok (.aload_n 0, 1) := by decide +kernel
theorem dX9_barredBits_7 : decode cX9_barredBits 7 = .ok (.getfield 16, 3) := by decide +kernel
theorem dX9_barredBits_10 : decode cX9_barredBits 10 = .ok (.iload_n 2, 1) := by decide +kernel
theorem dX9_barredBits_11 : decode cX9_barredBits 11 = .ok (.iaload, 1) := by decide +kernel
theorem dX9_barredBits_12 : decode cX9_barredBits 12 = .ok (.if_icmp .ne 7, 3) := by decide +kernel
theorem dX9_barredBits_15 : decode cX9_barredBits 15 = .ok (.iconst 1, 1) := by decide +kernel
theorem dX9_barredBits_16 : decode cX9_barredBits 16 = .ok (.goto 4, 3) := by decide +kernel
theorem dX9_barredBits_19 : decode cX9_barredBits 19 = .ok (.iconst 0, 1) := by decide +kernel
theorem dX9_barredBits_20 : decode cX9_barredBits 20 = .ok (.istore_n 3, 1) := by decide +kernel
theorem dX9_barredBits_21 : decode cX9_barredBits 21 = .ok (.iload_n 3, 1) := by decide +kernel
theorem dX9_barredBits_22 : decode cX9_barredBits 22 = .ok (.aload_n 0, 1) := by decide +kernel
theorem dX9_barredBits_23 : decode cX9_barredBits 23 = .ok (.getfield 19, 3) := by decide +kernel
theorem dX9_barredBits_26 : decode cX9_barredBits 26 = .ok (.iload_n 1, 1) := by decide +kernel
theorem dX9_barredBits_27 : decode cX9_barredBits 27 = .ok (.iaload, 1) := by decide +kernel
theorem dX9_barredBits_28 : decode cX9_barredBits 28 = .ok (.bipush (-9), 2) := by decide +kernel
theorem dX9_barredBits_30 : decode cX9_barredBits 30 = .ok (.if_icmp .eq 22, 3) := by decide +kernel
theorem dX9_barredBits_33 : decode cX9_barredBits 33 = .ok (.aload_n 0, 1) := by decide +kernel
theorem dX9_barredBits_34 : decode cX9_barredBits 34 = .ok (.getfield 19, 3) := by decide +kernel
theorem dX9_barredBits_37 : decode cX9_barredBits 37 = .ok (.iload_n 1, 1) := by decide +kernel
theorem dX9_barredBits_38 : decode cX9_barredBits 38 = .ok (.iaload, 1) := by decide +kernel
theorem dX9_barredBits_39 : decode cX9_barredBits 39 = .ok (.aload_n 0, 1) := by decide +kernel
theorem dX9_barredBits_40 : decode cX9_barredBits 40 = .ok (.getfield 19, 3) := by decide +kernel
theorem dX9_barredBits_43 : decode cX9_barredBits 43 = .ok (.iload_n 2, 1) := by decide +kernel
theorem dX9_barredBits_44 : decode cX9_barredBits 44 = .ok (.iaload, 1) := by decide +kernel
theorem dX9_barredBits_45 : decode cX9_barredBits 45 = .ok (.if_icmp .ne 7, 3) := by decide +kernel
theorem dX9_barredBits_48 : decode cX9_barredBits 48 = .ok (.iconst 2, 1) := by decide +kernel
theorem dX9_barredBits_49 : decode cX9_barredBits 49 = .ok (.goto 4, 3) := by decide +kernel
theorem dX9_barredBits_52 : decode cX9_barredBits 52 = .ok (.iconst 0, 1) := by decide +kernel
theorem dX9_barredBits_53 : decode cX9_barredBits 53 = .ok (.iadd, 1) := by decide +kernel
theorem dX9_barredBits_54 : decode cX9_barredBits 54 = .ok (.istore_n 3, 1) := by decide +kernel
theorem dX9_barredBits_55 : decode cX9_barredBits 55 = .ok (.iconst 0, 1) := by decide +kernel
theorem dX9_barredBits_56 : decode cX9_barredBits 56 = .ok (.istore 4, 2) := by decide +kernel
theorem dX9_barredBits_58 : decode cX9_barredBits 58 = .ok (.iconst 0, 1) := by decide +kernel
theorem dX9_barredBits_59 : decode cX9_barredBits 59 = .ok (.istore 5, 2) := by decide +kernel
theorem dX9_barredBits_61 : decode cX9_barredBits 61 = .ok (.iload 5, 2) := by decide +kernel
theorem dX9_barredBits_63 : decode cX9_barredBits 63 = .ok (.aload_n 0, 1) := by decide +kernel
theorem dX9_barredBits_64 : decode cX9_barredBits 64 = .ok (.getfield 170, 3) := by decide +kernel
theorem dX9_barredBits_67 : decode cX9_barredBits 67 = .ok (.if_icmp .ge 72, 3) := by decide +kernel
theorem dX9_barredBits_70 : decode cX9_barredBits 70 = .ok (.aload_n 0, 1) := by decide +kernel
theorem dX9_barredBits_71 : decode cX9_barredBits 71 = .ok (.getfield 132, 3) := by decide +kernel
theorem dX9_barredBits_74 : decode cX9_barredBits 74 = .ok (.ifCond .eq 65, 3) := by decide +kernel
theorem dX9_barredBits_77 : decode cX9_barredBits 77 = .ok (.iload 4, 2) := by decide +kernel
theorem dX9_barredBits_79 : decode cX9_barredBits 79 = .ok (.ifCond .ne 47, 3) := by decide +kernel
theorem dX9_barredBits_82 : decode cX9_barredBits 82 = .ok (.aload_n 0, 1) := by decide +kernel
theorem dX9_barredBits_83 : decode cX9_barredBits 83 = .ok (.getfield 57, 3) := by decide +kernel
theorem dX9_barredBits_86 : decode cX9_barredBits 86 = .ok (.iload 5, 2) := by decide +kernel
theorem dX9_barredBits_88 : decode cX9_barredBits 88 = .ok (.iaload, 1) := by decide +kernel
theorem dX9_barredBits_89 : decode cX9_barredBits 89 = .ok (.iload_n 1, 1) := by decide +kernel
theorem dX9_barredBits_90 : decode cX9_barredBits 90 = .ok (.if_icmp .ne 14, 3) := by decide +kernel
theorem dX9_barredBits_93 : decode cX9_barredBits 93 = .ok (.aload_n 0, 1) := by decide +kernel
theorem dX9_barredBits_94 : decode cX9_barredBits 94 = .ok (.getfield 60, 3) := by decide +kernel
theorem dX9_barredBits_97 : decode cX9_barredBits 97 = .ok (.iload 5, 2) := by decide +kernel
theorem dX9_barredBits_99 : decode cX9_barredBits 99 = .ok (.iaload, 1) := by decide +kernel
theorem dX9_barredBits_100 : decode cX9_barredBits 100 = .ok (.iload_n 2, 1) := by decide +kernel
theorem dX9_barredBits_101 : decode cX9_barredBits 101 = .ok (.if_icmp .eq 25, 3) := by decide +kernel
theorem dX9_barredBits_104 : decode cX9_barredBits 104 = .ok (.aload_n 0, 1) := by decide +kernel
theorem dX9_barredBits_105 : decode cX9_barredBits 105 = .ok (.getfield 57, 3) := by decide +kernel
theorem dX9_barredBits_108 : decode cX9_barredBits 108 = .ok (.iload 5, 2) := by decide +kernel
theorem dX9_barredBits_110 : decode cX9_barredBits 110 = .ok (.iaload, 1) := by decide +kernel
theorem dX9_barredBits_111 : decode cX9_barredBits 111 = .ok (.iload_n 2, 1) := by decide +kernel
theorem dX9_barredBits_112 : decode cX9_barredBits 112 = .ok (.if_icmp .ne 18, 3) := by decide +kernel
theorem dX9_barredBits_115 : decode cX9_barredBits 115 = .ok (.aload_n 0, 1) := by decide +kernel
theorem dX9_barredBits_116 : decode cX9_barredBits 116 = .ok (.getfield 60, 3) := by decide +kernel
theorem dX9_barredBits_119 : decode cX9_barredBits 119 = .ok (.iload 5, 2) := by decide +kernel
theorem dX9_barredBits_121 : decode cX9_barredBits 121 = .ok (.iaload, 1) := by decide +kernel
theorem dX9_barredBits_122 : decode cX9_barredBits 122 = .ok (.iload_n 1, 1) := by decide +kernel
theorem dX9_barredBits_123 : decode cX9_barredBits 123 = .ok (.if_icmp .ne 7, 3) := by decide +kernel
theorem dX9_barredBits_126 : decode cX9_barredBits 126 = .ok (.iconst 1, 1) := by decide +kernel
theorem dX9_barredBits_127 : decode cX9_barredBits 127 = .ok (.goto 4, 3) := by decide +kernel
theorem dX9_barredBits_130 : decode cX9_barredBits 130 = .ok (.iconst 0, 1) := by decide +kernel
theorem dX9_barredBits_131 : decode cX9_barredBits 131 = .ok (.istore 4, 2) := by decide +kernel
theorem dX9_barredBits_133 : decode cX9_barredBits 133 = .ok (.iinc 5 1, 3) := by decide +kernel
theorem dX9_barredBits_136 : decode cX9_barredBits 136 = .ok (.goto (-75), 3) := by decide +kernel
theorem dX9_barredBits_139 : decode cX9_barredBits 139 = .ok (.iload 4, 2) := by decide +kernel
theorem dX9_barredBits_141 : decode cX9_barredBits 141 = .ok (.ifCond .eq 9, 3) := by decide +kernel
theorem dX9_barredBits_144 : decode cX9_barredBits 144 = .ok (.iload_n 3, 1) := by decide +kernel
theorem dX9_barredBits_145 : decode cX9_barredBits 145 = .ok (.iconst 4, 1) := by decide +kernel
theorem dX9_barredBits_146 : decode cX9_barredBits 146 = .ok (.iadd, 1) := by decide +kernel
theorem dX9_barredBits_147 : decode cX9_barredBits 147 = .ok (.goto 4, 3) := by decide +kernel
theorem dX9_barredBits_150 : decode cX9_barredBits 150 = .ok (.iload_n 3, 1) := by decide +kernel
theorem dX9_barredBits_151 : decode cX9_barredBits 151 = .ok (.ireturn, 1) := by decide +kernel
theorem dX9_barred_0 : decode cX9_barred 0 = .ok (.aload_n 0, 1) := by decide +kernel
theorem dX9_barred_1 : decode cX9_barred 1 = .ok (.iload_n 1, 1) := by decide +kernel
theorem dX9_barred_2 : decode cX9_barred 2 = .ok (.invokevirtual 139, 3) := by decide +kernel
theorem dX9_barred_5 : decode cX9_barred 5 = .ok (.ifCond .eq 16, 3) := by decide +kernel
theorem dX9_barred_8 : decode cX9_barred 8 = .ok (.aload_n 0, 1) := by decide +kernel
theorem dX9_barred_9 : decode cX9_barred 9 = .ok (.iload_n 2, 1) := by decide +kernel
theorem dX9_barred_10 : decode cX9_barred 10 = .ok (.invokevirtual 139, 3) := by decide +kernel
theorem dX9_barred_13 : decode cX9_barred 13 = .ok (.ifCond .eq 8, 3) := by decide +kernel
theorem dX9_barred_16 : decode cX9_barred 16 = .ok (.iload_n 1, 1) := by decide +kernel
theorem dX9_barred_17 : decode cX9_barred 17 = .ok (.iload_n 2, 1) := by decide +kernel
theorem dX9_barred_18 : decode cX9_barred 18 = .ok (.if_icmp .ne 5, 3) := by decide +kernel
theorem dX9_barred_21 : decode cX9_barred 21 = .ok (.iconst (-1), 1) := by decide +kernel
theorem dX9_barred_22 : decode cX9_barred 22 = .ok (.ireturn, 1) := by decide +kernel
theorem dX9_barred_23 : decode cX9_barred 23 = .ok (.aload_n 0, 1) := by decide +kernel
theorem dX9_barred_24 : decode cX9_barred 24 = .ok (.getfield 22, 3) := by decide +kernel
theorem dX9_barred_27 : decode cX9_barred 27 = .ok (.iload_n 1, 1) := by decide +kernel
theorem dX9_barred_28 : decode cX9_barred 28 = .ok (.baload, 1) := by decide +kernel
theorem dX9_barred_29 : decode cX9_barred 29 = .ok (.ifCond .ne 12, 3) := by decide +kernel
theorem dX9_barred_32 : decode cX9_barred 32 = .ok (.aload_n 0, 1) := by decide +kernel
theorem dX9_barred_33 : decode cX9_barred 33 = .ok (.getfield 22, 3) := by decide +kernel
theorem dX9_barred_36 : decode cX9_barred 36 = .ok (.iload_n 2, 1) := by decide +kernel
theorem dX9_barred_37 : decode cX9_barred 37 = .ok (.baload, 1) := by decide +kernel
theorem dX9_barred_38 : decode cX9_barred 38 = .ok (.ifCond .eq 11, 3) := by decide +kernel
theorem dX9_barred_41 : decode cX9_barred 41 = .ok (.aload_n 0, 1) := by decide +kernel
theorem dX9_barred_42 : decode cX9_barred 42 = .ok (.iconst 1, 1) := by decide +kernel
theorem dX9_barred_43 : decode cX9_barred 43 = .ok (.invokevirtual 143, 3) := by decide +kernel
theorem dX9_barred_46 : decode cX9_barred 46 = .ok (.goto 9, 3) := by decide +kernel
theorem dX9_barred_49 : decode cX9_barred 49 = .ok (.aload_n 0, 1) := by decide +kernel
theorem dX9_barred_50 : decode cX9_barred 50 = .ok (.iload_n 1, 1) := by decide +kernel
theorem dX9_barred_51 : decode cX9_barred 51 = .ok (.iload_n 2, 1) := by decide +kernel
theorem dX9_barred_52 : decode cX9_barred 52 = .ok (.invokevirtual 179, 3) := by decide +kernel
theorem dX9_barred_55 : decode cX9_barred 55 = .ok (.ireturn, 1) := by decide +kernel
theorem dX9_layPairs_0 : decode cX9_layPairs 0 = .ok (.aload_n 0, 1) := by decide +kernel
theorem dX9_layPairs_1 : decode cX9_layPairs 1 = .ok (.iconst 0, 1) := by decide +kernel
theorem dX9_layPairs_2 : decode cX9_layPairs 2 = .ok (.putfield 182, 3) := by decide +kernel
theorem dX9_layPairs_5 : decode cX9_layPairs 5 = .ok (.iconst 0, 1) := by decide +kernel
theorem dX9_layPairs_6 : decode cX9_layPairs 6 = .ok (.istore_n 1, 1) := by decide +kernel
theorem dX9_layPairs_7 : decode cX9_layPairs 7 = .ok (.iload_n 1, 1) := by decide +kernel
theorem dX9_layPairs_8 : decode cX9_layPairs 8 = .ok (.aload_n 0, 1) := by decide +kernel
theorem dX9_layPairs_9 : decode cX9_layPairs 9 = .ok (.getfield 126, 3) := by decide +kernel
theorem dX9_layPairs_12 : decode cX9_layPairs 12 = .ok (.if_icmp .ge 48, 3) := by decide +kernel
theorem dX9_layPairs_15 : decode cX9_layPairs 15 = .ok (.aload_n 0, 1) := by decide +kernel
theorem dX9_layPairs_16 : decode cX9_layPairs 16 = .ok (.getfield 26, 3) := by decide +kernel
theorem dX9_layPairs_19 : decode cX9_layPairs 19 = .ok (.aload_n 0, 1) := by decide +kernel
theorem dX9_layPairs_20 : decode cX9_layPairs 20 = .ok (.getfield 41, 3) := by decide +kernel
theorem dX9_layPairs_23 : decode cX9_layPairs 23 = .ok (.iload_n 1, 1) := by decide +kernel
theorem dX9_layPairs_24 : decode cX9_layPairs 24 = .ok (.iaload, 1) := by decide +kernel
theorem dX9_layPairs_25 : decode cX9_layPairs 25 = .ok (.baload, 1) := by decide +kernel
theorem dX9_layPairs_26 : decode cX9_layPairs 26 = .ok (.ifCond .ne 28, 3) := by decide +kernel
theorem dX9_layPairs_29 : decode cX9_layPairs 29 = .ok (.aload_n 0, 1) := by decide +kernel
theorem dX9_layPairs_30 : decode cX9_layPairs 30 = .ok (.getfield 66, 3) := by decide +kernel
theorem dX9_layPairs_33 : decode cX9_layPairs 33 = .ok (.aload_n 0, 1) := by decide +kernel
theorem dX9_layPairs_34 : decode cX9_layPairs 34 = .ok (.getfield 182, 3) := by decide +kernel
theorem dX9_layPairs_37 : decode cX9_layPairs 37 = .ok (.aload_n 0, 1) := by decide +kernel
theorem dX9_layPairs_38 : decode cX9_layPairs 38 = .ok (.getfield 41, 3) := by decide +kernel
theorem dX9_layPairs_41 : decode cX9_layPairs 41 = .ok (.iload_n 1, 1) := by decide +kernel
theorem dX9_layPairs_42 : decode cX9_layPairs 42 = .ok (.iaload, 1) := by decide +kernel
theorem dX9_layPairs_43 : decode cX9_layPairs 43 = .ok (.iastore, 1) := by decide +kernel
theorem dX9_layPairs_44 : decode cX9_layPairs 44 = .ok (.aload_n 0, 1) := by decide +kernel
theorem dX9_layPairs_45 : decode cX9_layPairs 45 = .ok (.dup, 1) := by decide +kernel
theorem dX9_layPairs_46 : decode cX9_layPairs 46 = .ok (.getfield 182, 3) := by decide +kernel
theorem dX9_layPairs_49 : decode cX9_layPairs 49 = .ok (.iconst 1, 1) := by decide +kernel
theorem dX9_layPairs_50 : decode cX9_layPairs 50 = .ok (.iadd, 1) := by decide +kernel
theorem dX9_layPairs_51 : decode cX9_layPairs 51 = .ok (.putfield 182, 3) := by decide +kernel
theorem dX9_layPairs_54 : decode cX9_layPairs 54 = .ok (.iinc 1 1, 3) := by decide +kernel
theorem dX9_layPairs_57 : decode cX9_layPairs 57 = .ok (.goto (-50), 3) := by decide +kernel
theorem dX9_layPairs_60 : decode cX9_layPairs 60 = .ok (.iconst 0, 1) := by decide +kernel
theorem dX9_layPairs_61 : decode cX9_layPairs 61 = .ok (.istore_n 1, 1) := by decide +kernel
theorem dX9_layPairs_62 : decode cX9_layPairs 62 = .ok (.iload_n 1, 1) := by decide +kernel
theorem dX9_layPairs_63 : decode cX9_layPairs 63 = .ok (.aload_n 0, 1) := by decide +kernel
theorem dX9_layPairs_64 : decode cX9_layPairs 64 = .ok (.getfield 182, 3) := by decide +kernel
theorem dX9_layPairs_67 : decode cX9_layPairs 67 = .ok (.if_icmp .ge 118, 3) := by decide +kernel
theorem dX9_layPairs_70 : decode cX9_layPairs 70 = .ok (.iload_n 1, 1) := by decide +kernel
theorem dX9_layPairs_71 : decode cX9_layPairs 71 = .ok (.iconst 1, 1) := by decide +kernel
theorem dX9_layPairs_72 : decode cX9_layPairs 72 = .ok (.iadd, 1) := by decide +kernel
theorem dX9_layPairs_73 : decode cX9_layPairs 73 = .ok (.istore_n 2, 1) := by decide +kernel
theorem dX9_layPairs_74 : decode cX9_layPairs 74 = .ok (.iload_n 2, 1) := by decide +kernel
theorem dX9_layPairs_75 : decode cX9_layPairs 75 = .ok (.aload_n 0, 1) := by decide +kernel
theorem dX9_layPairs_76 : decode cX9_layPairs 76 = .ok (.getfield 182, 3) := by decide +kernel
theorem dX9_layPairs_79 : decode cX9_layPairs 79 = .ok (.if_icmp .ge 100, 3) := by decide +kernel
theorem dX9_layPairs_82 : decode cX9_layPairs 82 = .ok (.aload_n 0, 1) := by decide +kernel
theorem dX9_layPairs_83 : decode cX9_layPairs 83 = .ok (.getfield 66, 3) := by decide +kernel
theorem dX9_layPairs_86 : decode cX9_layPairs 86 = .ok (.iload_n 1, 1) := by decide +kernel
theorem dX9_layPairs_87 : decode cX9_layPairs 87 = .ok (.iaload, 1) := by decide +kernel
theorem dX9_layPairs_88 : decode cX9_layPairs 88 = .ok (.istore_n 3, 1) := by decide +kernel
theorem dX9_layPairs_89 : decode cX9_layPairs 89 = .ok (.aload_n 0, 1) := by decide +kernel
theorem dX9_layPairs_90 : decode cX9_layPairs 90 = .ok (.getfield 66, 3) := by decide +kernel
theorem dX9_layPairs_93 : decode cX9_layPairs 93 = .ok (.iload_n 2, 1) := by decide +kernel
theorem dX9_layPairs_94 : decode cX9_layPairs 94 = .ok (.iaload, 1) := by decide +kernel
theorem dX9_layPairs_95 : decode cX9_layPairs 95 = .ok (.istore 4, 2) := by decide +kernel
theorem dX9_layPairs_97 : decode cX9_layPairs 97 = .ok (.aload_n 0, 1) := by decide +kernel
theorem dX9_layPairs_98 : decode cX9_layPairs 98 = .ok (.getfield 29, 3) := by decide +kernel
theorem dX9_layPairs_101 : decode cX9_layPairs 101 = .ok (.iload_n 3, 1) := by decide +kernel
theorem dX9_layPairs_102 : decode cX9_layPairs 102 = .ok (.iaload, 1) := by decide +kernel
theorem dX9_layPairs_103 : decode cX9_layPairs 103 = .ok (.aload_n 0, 1) := by decide +kernel
theorem dX9_layPairs_104 : decode cX9_layPairs 104 = .ok (.getfield 29, 3) := by decide +kernel
theorem dX9_layPairs_107 : decode cX9_layPairs 107 = .ok (.iload 4, 2) := by decide +kernel
theorem dX9_layPairs_109 : decode cX9_layPairs 109 = .ok (.iaload, 1) := by decide +kernel
theorem dX9_layPairs_110 : decode cX9_layPairs 110 = .ok (.isub, 1) := by decide +kernel
theorem dX9_layPairs_111 : decode cX9_layPairs 111 = .ok (.istore 5, 2) := by decide +kernel
theorem dX9_layPairs_113 : decode cX9_layPairs 113 = .ok (.iload 5, 2) := by decide +kernel
theorem dX9_layPairs_115 : decode cX9_layPairs 115 = .ok (.ifCond .ge 9, 3) := by decide +kernel
theorem dX9_layPairs_118 : decode cX9_layPairs 118 = .ok (.iload 5, 2) := by decide +kernel
theorem dX9_layPairs_120 : decode cX9_layPairs 120 = .ok (.ineg, 1) := by decide +kernel
theorem dX9_layPairs_121 : decode cX9_layPairs 121 = .ok (.goto 5, 3) := by decide +kernel
theorem dX9_layPairs_124 : decode cX9_layPairs 124 = .ok (.iload 5, 2) := by decide +kernel
theorem dX9_layPairs_126 : decode cX9_layPairs 126 = .ok (.istore 6, 2) := by decide +kernel
theorem dX9_layPairs_128 : decode cX9_layPairs 128 = .ok (.aload_n 0, 1) := by decide +kernel
theorem dX9_layPairs_129 : decode cX9_layPairs 129 = .ok (.getfield 69, 3) := by decide +kernel
theorem dX9_layPairs_132 : decode cX9_layPairs 132 = .ok (.bipush 16, 2) := by decide +kernel
theorem dX9_layPairs_134 : decode cX9_layPairs 134 = .ok (.iload_n 1, 1) := by decide +kernel
theorem dX9_layPairs_135 : decode cX9_layPairs 135 = .ok (.imul, 1) := by decide +kernel
theorem dX9_layPairs_136 : decode cX9_layPairs 136 = .ok (.iload_n 2, 1) := by decide +kernel
theorem dX9_layPairs_137 : decode cX9_layPairs 137 = .ok (.iadd, 1) := by decide +kernel
theorem dX9_layPairs_138 : decode cX9_layPairs 138 = .ok (.aload_n 0, 1) := by decide +kernel
theorem dX9_layPairs_139 : decode cX9_layPairs 139 = .ok (.iload_n 3, 1) := by decide +kernel
theorem dX9_layPairs_140 : decode cX9_layPairs 140 = .ok (.iload 4, 2) := by decide +kernel
theorem dX9_layPairs_142 : decode cX9_layPairs 142 = .ok (.invokevirtual 179, 3) := by decide +kernel
theorem dX9_layPairs_145 : decode cX9_layPairs 145 = .ok (.ifCond .le 8, 3) := by decide +kernel
theorem dX9_layPairs_148 : decode cX9_layPairs 148 = .ok (.bipush (-9), 2) := by decide +kernel
theorem dX9_layPairs_150 : decode cX9_layPairs 150 = .ok (.goto 22, 3) := by decide +kernel
theorem dX9_layPairs_153 : decode cX9_layPairs 153 = .ok (.aload_n 0, 1) := by decide +kernel
theorem dX9_layPairs_154 : decode cX9_layPairs 154 = .ok (.iload 6, 2) := by decide +kernel
theorem dX9_layPairs_156 : decode cX9_layPairs 156 = .ok (.invokevirtual 161, 3) := by decide +kernel
theorem dX9_layPairs_159 : decode cX9_layPairs 159 = .ok (.aload_n 0, 1) := by decide +kernel
theorem dX9_layPairs_160 : decode cX9_layPairs 160 = .ok (.iload 4, 2) := by decide +kernel
theorem dX9_layPairs_162 : decode cX9_layPairs 162 = .ok (.invokevirtual 147, 3) := by decide +kernel
theorem dX9_layPairs_165 : decode cX9_layPairs 165 = .ok (.iadd, 1) := by decide +kernel
theorem dX9_layPairs_166 : decode cX9_layPairs 166 = .ok (.aload_n 0, 1) := by decide +kernel
theorem dX9_layPairs_167 : decode cX9_layPairs 167 = .ok (.iload_n 3, 1) := by decide +kernel
theorem dX9_layPairs_168 : decode cX9_layPairs 168 = .ok (.invokevirtual 147, 3) := by decide +kernel
theorem dX9_layPairs_171 : decode cX9_layPairs 171 = .ok (.isub, 1) := by decide +kernel
theorem dX9_layPairs_172 : decode cX9_layPairs 172 = .ok (.iastore, 1) := by decide +kernel
theorem dX9_layPairs_173 : decode cX9_layPairs 173 = .ok (.iinc 2 1, 3) := by decide +kernel
theorem dX9_layPairs_176 : decode cX9_layPairs 176 = .ok (.goto (-102), 3) := by decide +kernel
theorem dX9_layPairs_179 : decode cX9_layPairs 179 = .ok (.iinc 1 1, 3) := by decide +kernel
theorem dX9_layPairs_182 : decode cX9_layPairs 182 = .ok (.goto (-120), 3) := by decide +kernel
theorem dX9_layPairs_185 : decode cX9_layPairs 185 = .ok (.return_, 1) := by decide +kernel
theorem dX9_first_0 : decode cX9_first 0 = .ok (.iconst 0, 1) := by decide +kernel
theorem dX9_first_1 : decode cX9_first 1 = .ok (.istore_n 2, 1) := by decide +kernel
theorem dX9_first_2 : decode cX9_first 2 = .ok (.iload_n 1, 1) := by decide +kernel
theorem dX9_first_3 : decode cX9_first 3 = .ok (.iload_n 2, 1) := by decide +kernel
theorem dX9_first_4 : decode cX9_first 4 = .ok (.ishr, 1) := by decide +kernel
theorem dX9_first_5 : decode cX9_first 5 = .ok (.iconst 1, 1) := by decide +kernel
theorem dX9_first_6 : decode cX9_first 6 = .ok (.iand, 1) := by decide +kernel
theorem dX9_first_7 : decode cX9_first 7 = .ok (.ifCond .ne 9, 3) := by decide +kernel
theorem dX9_first_10 : decode cX9_first 10 = .ok (.iinc 2 1, 3) := by decide +kernel
theorem dX9_first_13 : decode cX9_first 13 = .ok (.goto (-11), 3) := by decide +kernel
theorem dX9_first_16 : decode cX9_first 16 = .ok (.iload_n 2, 1) := by decide +kernel
theorem dX9_first_17 : decode cX9_first 17 = .ok (.ireturn, 1) := by decide +kernel
theorem dX9_layLeast_0 : decode cX9_layLeast 0 = .ok (.aload_n 0, 1) := by decide +kernel
theorem dX9_layLeast_1 : decode cX9_layLeast 1 = .ok (.getfield 73, 3) := by decide +kernel
theorem dX9_layLeast_4 : decode cX9_layLeast 4 = .ok (.iconst 0, 1) := by decide +kernel
theorem dX9_layLeast_5 : decode cX9_layLeast 5 = .ok (.iconst 0, 1) := by decide +kernel
theorem dX9_layLeast_6 : decode cX9_layLeast 6 = .ok (.iastore, 1) := by decide +kernel
theorem dX9_layLeast_7 : decode cX9_layLeast 7 = .ok (.iconst 1, 1) := by decide +kernel
theorem dX9_layLeast_8 : decode cX9_layLeast 8 = .ok (.istore_n 1, 1) := by decide +kernel
theorem dX9_layLeast_9 : decode cX9_layLeast 9 = .ok (.iload_n 1, 1) := by decide +kernel
theorem dX9_layLeast_10 : decode cX9_layLeast 10 = .ok (.iconst 1, 1) := by decide +kernel
theorem dX9_layLeast_11 : decode cX9_layLeast 11 = .ok (.aload_n 0, 1) := by decide +kernel
theorem dX9_layLeast_12 : decode cX9_layLeast 12 = .ok (.getfield 182, 3) := by decide +kernel
theorem dX9_layLeast_15 : decode cX9_layLeast 15 = .ok (.ishl, 1) := by decide +kernel
theorem dX9_layLeast_16 : decode cX9_layLeast 16 = .ok (.if_icmp .ge 133, 3) := by decide +kernel
theorem dX9_layLeast_19 : decode cX9_layLeast 19 = .ok (.aload_n 0, 1) := by decide +kernel
theorem dX9_layLeast_20 : decode cX9_layLeast 20 = .ok (.iload_n 1, 1) := by decide +kernel
theorem dX9_layLeast_21 : decode cX9_layLeast 21 = .ok (.invokevirtual 185, 3) := by decide +kernel
theorem dX9_layLeast_24 : decode cX9_layLeast 24 = .ok (.istore_n 2, 1) := by decide +kernel
theorem dX9_layLeast_25 : decode cX9_layLeast 25 = .ok (.iload_n 1, 1) := by decide +kernel
theorem dX9_layLeast_26 : decode cX9_layLeast 26 = .ok (.iconst 1, 1) := by decide +kernel
theorem dX9_layLeast_27 : decode cX9_layLeast 27 = .ok (.iload_n 2, 1) := by decide +kernel
theorem dX9_layLeast_28 : decode cX9_layLeast 28 = .ok (.ishl, 1) := by decide +kernel
theorem dX9_layLeast_29 : decode cX9_layLeast 29 = .ok (.iconst (-1), 1) := by decide +kernel
theorem dX9_layLeast_30 : decode cX9_layLeast 30 = .ok (.ixor, 1) := by decide +kernel
theorem dX9_layLeast_31 : decode cX9_layLeast 31 = .ok (.iand, 1) := by decide +kernel
theorem dX9_layLeast_32 : decode cX9_layLeast 32 = .ok (.istore_n 3, 1) := by decide +kernel
theorem dX9_layLeast_33 : decode cX9_layLeast 33 = .ok (.sipush 10000, 3) := by decide +kernel
theorem dX9_layLeast_36 : decode cX9_layLeast 36 = .ok (.aload_n 0, 1) := by decide +kernel
theorem dX9_layLeast_37 : decode cX9_layLeast 37 = .ok (.getfield 73, 3) := by decide +kernel
theorem dX9_layLeast_40 : decode cX9_layLeast 40 = .ok (.iload_n 3, 1) := by decide +kernel
theorem dX9_layLeast_41 : decode cX9_layLeast 41 = .ok (.iaload, 1) := by decide +kernel
theorem dX9_layLeast_42 : decode cX9_layLeast 42 = .ok (.iadd, 1) := by decide +kernel
theorem dX9_layLeast_43 : decode cX9_layLeast 43 = .ok (.istore 4, 2) := by decide +kernel
theorem dX9_layLeast_45 : decode cX9_layLeast 45 = .ok (.iload_n 2, 1) := by decide +kernel
theorem dX9_layLeast_46 : decode cX9_layLeast 46 = .ok (.iconst 1, 1) := by decide +kernel
theorem dX9_layLeast_47 : decode cX9_layLeast 47 = .ok (.iadd, 1) := by decide +kernel
theorem dX9_layLeast_48 : decode cX9_layLeast 48 = .ok (.istore 5, 2) := by decide +kernel
theorem dX9_layLeast_50 : decode cX9_layLeast 50 = .ok (.iload 5, 2) := by decide +kernel
theorem dX9_layLeast_52 : decode cX9_layLeast 52 = .ok (.aload_n 0, 1) := by decide +kernel
theorem dX9_layLeast_53 : decode cX9_layLeast 53 = .ok (.getfield 182, 3) := by decide +kernel
theorem dX9_layLeast_56 : decode cX9_layLeast 56 = .ok (.if_icmp .ge 79, 3) := by decide +kernel
theorem dX9_layLeast_59 : decode cX9_layLeast 59 = .ok (.aload_n 0, 1) := by decide +kernel
theorem dX9_layLeast_60 : decode cX9_layLeast 60 = .ok (.getfield 69, 3) := by decide +kernel
theorem dX9_layLeast_63 : decode cX9_layLeast 63 = .ok (.bipush 16, 2) := by decide +kernel
theorem dX9_layLeast_65 : decode cX9_layLeast 65 = .ok (.iload_n 2, 1) := by decide +kernel
theorem dX9_layLeast_66 : decode cX9_layLeast 66 = .ok (.imul, 1) := by decide +kernel
theorem dX9_layLeast_67 : decode cX9_layLeast 67 = .ok (.iload 5, 2) := by decide +kernel
theorem dX9_layLeast_69 : decode cX9_layLeast 69 = .ok (.iadd, 1) := by decide +kernel
theorem dX9_layLeast_70 : decode cX9_layLeast 70 = .ok (.iaload, 1) := by decide +kernel
theorem dX9_layLeast_71 : decode cX9_layLeast 71 = .ok (.istore 6, 2) := by decide +kernel
theorem dX9_layLeast_73 : decode cX9_layLeast 73 = .ok (.iload_n 3, 1) := by decide +kernel
theorem dX9_layLeast_74 : decode cX9_layLeast 74 = .ok (.iload 5, 2) := by decide +kernel
theorem dX9_layLeast_76 : decode cX9_layLeast 76 = .ok (.ishr, 1) := by decide +kernel
theorem dX9_layLeast_77 : decode cX9_layLeast 77 = .ok (.iconst 1, 1) := by decide +kernel
theorem dX9_layLeast_78 : decode cX9_layLeast 78 = .ok (.iand, 1) := by decide +kernel
theorem dX9_layLeast_79 : decode cX9_layLeast 79 = .ok (.iconst 1, 1) := by decide +kernel
theorem dX9_layLeast_80 : decode cX9_layLeast 80 = .ok (.if_icmp .ne 49, 3) := by decide +kernel
theorem dX9_layLeast_83 : decode cX9_layLeast 83 = .ok (.iload 6, 2) := by decide +kernel
theorem dX9_layLeast_85 : decode cX9_layLeast 85 = .ok (.bipush (-9), 2) := by decide +kernel
theorem dX9_layLeast_87 : decode cX9_layLeast 87 = .ok (.if_icmp .eq 42, 3) := by decide +kernel
theorem dX9_layLeast_90 : decode cX9_layLeast 90 = .ok (.iload 6, 2) := by decide +kernel
theorem dX9_layLeast_92 : decode cX9_layLeast 92 = .ok (.aload_n 0, 1) := by decide +kernel
theorem dX9_layLeast_93 : decode cX9_layLeast 93 = .ok (.getfield 73, 3) := by decide +kernel
theorem dX9_layLeast_96 : decode cX9_layLeast 96 = .ok (.iload_n 3, 1) := by decide +kernel
theorem dX9_layLeast_97 : decode cX9_layLeast 97 = .ok (.iconst 1, 1) := by decide +kernel
theorem dX9_layLeast_98 : decode cX9_layLeast 98 = .ok (.iload 5, 2) := by decide +kernel
theorem dX9_layLeast_100 : decode cX9_layLeast 100 = .ok (.ishl, 1) := by decide +kernel
theorem dX9_layLeast_101 : decode cX9_layLeast 101 = .ok (.iconst (-1), 1) := by decide +kernel
theorem dX9_layLeast_102 : decode cX9_layLeast 102 = .ok (.ixor, 1) := by decide +kernel
theorem dX9_layLeast_103 : decode cX9_layLeast 103 = .ok (.iand, 1) := by decide +kernel
theorem dX9_layLeast_104 : decode cX9_layLeast 104 = .ok (.iaload, 1) := by decide +kernel
theorem dX9_layLeast_105 : decode cX9_layLeast 105 = .ok (.iadd, 1) := by decide +kernel
theorem dX9_layLeast_106 : decode cX9_layLeast 106 = .ok (.iload 4, 2) := by decide +kernel
theorem dX9_layLeast_108 : decode cX9_layLeast 108 = .ok (.if_icmp .ge 21, 3) := by decide +kernel
theorem dX9_layLeast_111 : decode cX9_layLeast 111 = .ok (.iload 6, 2) := by decide +kernel
theorem dX9_layLeast_113 : decode cX9_layLeast 113 = .ok (.aload_n 0, 1) := by decide +kernel
theorem dX9_layLeast_114 : decode cX9_layLeast 114 = .ok (.getfield 73, 3) := by decide +kernel
theorem dX9_layLeast_117 : decode cX9_layLeast 117 = .ok (.iload_n 3, 1) := by decide +kernel
theorem dX9_layLeast_118 : decode cX9_layLeast 118 = .ok (.iconst 1, 1) := by decide +kernel
theorem dX9_layLeast_119 : decode cX9_layLeast 119 = .ok (.iload 5, 2) := by decide +kernel
theorem dX9_layLeast_121 : decode cX9_layLeast 121 = .ok (.ishl, 1) := by decide +kernel
theorem dX9_layLeast_122 : decode cX9_layLeast 122 = .ok (.iconst (-1), 1) := by decide +kernel
theorem dX9_layLeast_123 : decode cX9_layLeast 123 = .ok (.ixor, 1) := by decide +kernel
theorem dX9_layLeast_124 : decode cX9_layLeast 124 = .ok (.iand, 1) := by decide +kernel
theorem dX9_layLeast_125 : decode cX9_layLeast 125 = .ok (.iaload, 1) := by decide +kernel
theorem dX9_layLeast_126 : decode cX9_layLeast 126 = .ok (.iadd, 1) := by decide +kernel
theorem dX9_layLeast_127 : decode cX9_layLeast 127 = .ok (.istore 4, 2) := by decide +kernel
theorem dX9_layLeast_129 : decode cX9_layLeast 129 = .ok (.iinc 5 1, 3) := by decide +kernel
theorem dX9_layLeast_132 : decode cX9_layLeast 132 = .ok (.goto (-82), 3) := by decide +kernel
theorem dX9_layLeast_135 : decode cX9_layLeast 135 = .ok (.aload_n 0, 1) := by decide +kernel
theorem dX9_layLeast_136 : decode cX9_layLeast 136 = .ok (.getfield 73, 3) := by decide +kernel
theorem dX9_layLeast_139 : decode cX9_layLeast 139 = .ok (.iload_n 1, 1) := by decide +kernel
theorem dX9_layLeast_140 : decode cX9_layLeast 140 = .ok (.iload 4, 2) := by decide +kernel
theorem dX9_layLeast_142 : decode cX9_layLeast 142 = .ok (.iastore, 1) := by decide +kernel
theorem dX9_layLeast_143 : decode cX9_layLeast 143 = .ok (.iinc 1 1, 3) := by decide +kernel
theorem dX9_layLeast_146 : decode cX9_layLeast 146 = .ok (.goto (-137), 3) := by decide +kernel
theorem dX9_layLeast_149 : decode cX9_layLeast 149 = .ok (.return_, 1) := by decide +kernel
theorem dX9_addBout_0 : decode cX9_addBout 0 = .ok (.aload_n 0, 1) := by decide +kernel
theorem dX9_addBout_1 : decode cX9_addBout 1 = .ok (.getfield 54, 3) := by decide +kernel
theorem dX9_addBout_4 : decode cX9_addBout 4 = .ok (.aload_n 0, 1) := by decide +kernel
theorem dX9_addBout_5 : decode cX9_addBout 5 = .ok (.getfield 170, 3) := by decide +kernel
theorem dX9_addBout_8 : decode cX9_addBout 8 = .ok (.aload_n 0, 1) := by decide +kernel
theorem dX9_addBout_9 : decode cX9_addBout 9 = .ok (.getfield 167, 3) := by decide +kernel
theorem dX9_addBout_12 : decode cX9_addBout 12 = .ok (.iastore, 1) := by decide +kernel
theorem dX9_addBout_13 : decode cX9_addBout 13 = .ok (.aload_n 0, 1) := by decide +kernel
theorem dX9_addBout_14 : decode cX9_addBout 14 = .ok (.getfield 57, 3) := by decide +kernel
theorem dX9_addBout_17 : decode cX9_addBout 17 = .ok (.aload_n 0, 1) := by decide +kernel
theorem dX9_addBout_18 : decode cX9_addBout 18 = .ok (.getfield 170, 3) := by decide +kernel
theorem dX9_addBout_21 : decode cX9_addBout 21 = .ok (.iload_n 1, 1) := by decide +kernel
theorem dX9_addBout_22 : decode cX9_addBout 22 = .ok (.iastore, 1) := by decide +kernel
theorem dX9_addBout_23 : decode cX9_addBout 23 = .ok (.aload_n 0, 1) := by decide +kernel
theorem dX9_addBout_24 : decode cX9_addBout 24 = .ok (.getfield 60, 3) := by decide +kernel
theorem dX9_addBout_27 : decode cX9_addBout 27 = .ok (.aload_n 0, 1) := by decide +kernel
theorem dX9_addBout_28 : decode cX9_addBout 28 = .ok (.getfield 170, 3) := by decide +kernel
theorem dX9_addBout_31 : decode cX9_addBout 31 = .ok (.iload_n 2, 1) := by decide +kernel
theorem dX9_addBout_32 : decode cX9_addBout 32 = .ok (.iastore, 1) := by decide +kernel
theorem dX9_addBout_33 : decode cX9_addBout 33 = .ok (.aload_n 0, 1) := by decide +kernel
theorem dX9_addBout_34 : decode cX9_addBout 34 = .ok (.getfield 63, 3) := by decide +kernel
theorem dX9_addBout_37 : decode cX9_addBout 37 = .ok (.aload_n 0, 1) := by decide +kernel
theorem dX9_addBout_38 : decode cX9_addBout 38 = .ok (.getfield 170, 3) := by decide +kernel
theorem dX9_addBout_41 : decode cX9_addBout 41 = .ok (.bipush (-9), 2) := by decide +kernel
theorem dX9_addBout_43 : decode cX9_addBout 43 = .ok (.iastore, 1) := by decide +kernel
theorem dX9_addBout_44 : decode cX9_addBout 44 = .ok (.aload_n 0, 1) := by decide +kernel
theorem dX9_addBout_45 : decode cX9_addBout 45 = .ok (.dup, 1) := by decide +kernel
theorem dX9_addBout_46 : decode cX9_addBout 46 = .ok (.getfield 170, 3) := by decide +kernel
theorem dX9_addBout_49 : decode cX9_addBout 49 = .ok (.iconst 1, 1) := by decide +kernel
theorem dX9_addBout_50 : decode cX9_addBout 50 = .ok (.iadd, 1) := by decide +kernel
theorem dX9_addBout_51 : decode cX9_addBout 51 = .ok (.putfield 170, 3) := by decide +kernel
theorem dX9_addBout_54 : decode cX9_addBout 54 = .ok (.aload_n 0, 1) := by decide +kernel
theorem dX9_addBout_55 : decode cX9_addBout 55 = .ok (.dup, 1) := by decide +kernel
theorem dX9_addBout_56 : decode cX9_addBout 56 = .ok (.getfield 173, 3) := by decide +kernel
theorem dX9_addBout_59 : decode cX9_addBout 59 = .ok (.iconst 1, 1) := by decide +kernel
theorem dX9_addBout_60 : decode cX9_addBout 60 = .ok (.iadd, 1) := by decide +kernel
theorem dX9_addBout_61 : decode cX9_addBout 61 = .ok (.putfield 173, 3) := by decide +kernel
theorem dX9_addBout_64 : decode cX9_addBout 64 = .ok (.return_, 1) := by decide +kernel
theorem dX9_draw_0 : decode cX9_draw 0 = .ok (.aload_n 0, 1) := by decide +kernel
theorem dX9_draw_1 : decode cX9_draw 1 = .ok (.getfield 132, 3) := by decide +kernel
theorem dX9_draw_4 : decode cX9_draw 4 = .ok (.ifCond .eq 21, 3) := by decide +kernel
theorem dX9_draw_7 : decode cX9_draw 7 = .ok (.aload_n 0, 1) := by decide +kernel
theorem dX9_draw_8 : decode cX9_draw 8 = .ok (.getfield 173, 3) := by decide +kernel
theorem dX9_draw_11 : decode cX9_draw 11 = .ok (.ifCond .gt 14, 3) := by decide +kernel
theorem dX9_draw_14 : decode cX9_draw 14 = .ok (.aload_n 0, 1) := by decide +kernel
theorem dX9_draw_15 : decode cX9_draw 15 = .ok (.getfield 167, 3) := by decide +kernel
theorem dX9_draw_18 : decode cX9_draw 18 = .ok (.aload_n 0, 1) := by decide +kernel
theorem dX9_draw_19 : decode cX9_draw 19 = .ok (.getfield 164, 3) := by decide +kernel
theorem dX9_draw_22 : decode cX9_draw 22 = .ok (.if_icmp .ne 6, 3) := by decide +kernel
theorem dX9_draw_25 : decode cX9_draw 25 = .ok (.bipush (-4), 2) := by decide +kernel
theorem dX9_draw_27 : decode cX9_draw 27 = .ok (.ireturn, 1) := by decide +kernel
theorem dX9_draw_28 : decode cX9_draw 28 = .ok (.aload_n 0, 1) := by decide +kernel
theorem dX9_draw_29 : decode cX9_draw 29 = .ok (.invokevirtual 188, 3) := by decide +kernel
theorem dX9_draw_32 : decode cX9_draw 32 = .ok (.aload_n 0, 1) := by decide +kernel
theorem dX9_draw_33 : decode cX9_draw 33 = .ok (.invokevirtual 191, 3) := by decide +kernel
theorem dX9_draw_36 : decode cX9_draw 36 = .ok (.iconst 1, 1) := by decide +kernel
theorem dX9_draw_37 : decode cX9_draw 37 = .ok (.aload_n 0, 1) := by decide +kernel
theorem dX9_draw_38 : decode cX9_draw 38 = .ok (.getfield 182, 3) := by decide +kernel
theorem dX9_draw_41 : decode cX9_draw 41 = .ok (.ishl, 1) := by decide +kernel
theorem dX9_draw_42 : decode cX9_draw 42 = .ok (.iconst 1, 1) := by decide +kernel
theorem dX9_draw_43 : decode cX9_draw 43 = .ok (.isub, 1) := by decide +kernel
theorem dX9_draw_44 : decode cX9_draw 44 = .ok (.istore_n 1, 1) := by decide +kernel
theorem dX9_draw_45 : decode cX9_draw 45 = .ok (.aload_n 0, 1) := by decide +kernel
theorem dX9_draw_46 : decode cX9_draw 46 = .ok (.aload_n 0, 1) := by decide +kernel
theorem dX9_draw_47 : decode cX9_draw 47 = .ok (.getfield 73, 3) := by decide +kernel
theorem dX9_draw_50 : decode cX9_draw 50 = .ok (.iload_n 1, 1) := by decide +kernel
theorem dX9_draw_51 : decode cX9_draw 51 = .ok (.iaload, 1) := by decide +kernel
theorem dX9_draw_52 : decode cX9_draw 52 = .ok (.putfield 194, 3) := by decide +kernel
theorem dX9_draw_55 : decode cX9_draw 55 = .ok (.aload_n 0, 1) := by decide +kernel
theorem dX9_draw_56 : decode cX9_draw 56 = .ok (.iconst 0, 1) := by decide +kernel
theorem dX9_draw_57 : decode cX9_draw 57 = .ok (.putfield 197, 3) := by decide +kernel
theorem dX9_draw_60 : decode cX9_draw 60 = .ok (.iconst 0, 1) := by decide +kernel
theorem dX9_draw_61 : decode cX9_draw 61 = .ok (.istore_n 2, 1) := by decide +kernel
theorem dX9_draw_62 : decode cX9_draw 62 = .ok (.iload_n 1, 1) := by decide +kernel
theorem dX9_draw_63 : decode cX9_draw 63 = .ok (.ifCond .eq 179, 3) := by decide +kernel
theorem dX9_draw_66 : decode cX9_draw 66 = .ok (.aload_n 0, 1) := by decide +kernel
theorem dX9_draw_67 : decode cX9_draw 67 = .ok (.iload_n 1, 1) := by decide +kernel
theorem dX9_draw_68 : decode cX9_draw 68 = .ok (.invokevirtual 185, 3) := by decide +kernel
theorem dX9_draw_71 : decode cX9_draw 71 = .ok (.istore_n 3, 1) := by decide +kernel
theorem dX9_draw_72 : decode cX9_draw 72 = .ok (.iload_n 1, 1) := by decide +kernel
theorem dX9_draw_73 : decode cX9_draw 73 = .ok (.iconst 1, 1) := by decide +kernel
theorem dX9_draw_74 : decode cX9_draw 74 = .ok (.iload_n 3, 1) := by decide +kernel
theorem dX9_draw_75 : decode cX9_draw 75 = .ok (.ishl, 1) := by decide +kernel
theorem dX9_draw_76 : decode cX9_draw 76 = .ok (.iconst (-1), 1) := by decide +kernel
theorem dX9_draw_77 : decode cX9_draw 77 = .ok (.ixor, 1) := by decide +kernel
theorem dX9_draw_78 : decode cX9_draw 78 = .ok (.iand, 1) := by decide +kernel
theorem dX9_draw_79 : decode cX9_draw 79 = .ok (.istore 4, 2) := by decide +kernel
theorem dX9_draw_81 : decode cX9_draw 81 = .ok (.bipush (-9), 2) := by decide +kernel
theorem dX9_draw_83 : decode cX9_draw 83 = .ok (.istore 5, 2) := by decide +kernel
theorem dX9_draw_85 : decode cX9_draw 85 = .ok (.iload_n 3, 1) := by decide +kernel
theorem dX9_draw_86 : decode cX9_draw 86 = .ok (.iconst 1, 1) := by decide +kernel
theorem dX9_draw_87 : decode cX9_draw 87 = .ok (.iadd, 1) := by decide +kernel
theorem dX9_draw_88 : decode cX9_draw 88 = .ok (.istore 6, 2) := by decide +kernel
theorem dX9_draw_90 : decode cX9_draw 90 = .ok (.iload 6, 2) := by decide +kernel
theorem dX9_draw_92 : decode cX9_draw 92 = .ok (.aload_n 0, 1) := by decide +kernel
theorem dX9_draw_93 : decode cX9_draw 93 = .ok (.getfield 182, 3) := by decide +kernel
theorem dX9_draw_96 : decode cX9_draw 96 = .ok (.if_icmp .ge 83, 3) := by decide +kernel
theorem dX9_draw_99 : decode cX9_draw 99 = .ok (.iload 5, 2) := by decide +kernel
theorem dX9_draw_101 : decode cX9_draw 101 = .ok (.bipush (-9), 2) := by decide +kernel
theorem dX9_draw_103 : decode cX9_draw 103 = .ok (.if_icmp .ne 76, 3) := by decide +kernel
theorem dX9_draw_106 : decode cX9_draw 106 = .ok (.aload_n 0, 1) := by decide +kernel
theorem dX9_draw_107 : decode cX9_draw 107 = .ok (.getfield 69, 3) := by decide +kernel
theorem dX9_draw_110 : decode cX9_draw 110 = .ok (.bipush 16, 2) := by decide +kernel
theorem dX9_draw_112 : decode cX9_draw 112 = .ok (.iload_n 3, 1) := by decide +kernel
theorem dX9_draw_113 : decode cX9_draw 113 = .ok (.imul, 1) := by decide +kernel
theorem dX9_draw_114 : decode cX9_draw 114 = .ok (.iload 6, 2) := by decide +kernel
theorem dX9_draw_116 : decode cX9_draw 116 = .ok (.iadd, 1) := by decide +kernel
theorem dX9_draw_117 : decode cX9_draw 117 = .ok (.iaload, 1) := by decide +kernel
theorem dX9_draw_118 : decode cX9_draw 118 = .ok (.istore 7, 2) := by decide +kernel
theorem dX9_draw_120 : decode cX9_draw 120 = .ok (.iload 4, 2) := by decide +kernel
theorem dX9_draw_122 : decode cX9_draw 122 = .ok (.iload 6, 2) := by decide +kernel
theorem dX9_draw_124 : decode cX9_draw 124 = .ok (.ishr, 1) := by decide +kernel
theorem dX9_draw_125 : decode cX9_draw 125 = .ok (.iconst 1, 1) := by decide +kernel
theorem dX9_draw_126 : decode cX9_draw 126 = .ok (.iand, 1) := by decide +kernel
theorem dX9_draw_127 : decode cX9_draw 127 = .ok (.iconst 1, 1) := by decide +kernel
theorem dX9_draw_128 : decode cX9_draw 128 = .ok (.if_icmp .ne 41, 3) := by decide +kernel
theorem dX9_draw_131 : decode cX9_draw 131 = .ok (.iload 7, 2) := by decide +kernel
theorem dX9_draw_133 : decode cX9_draw 133 = .ok (.bipush (-9), 2) := by decide +kernel
theorem dX9_draw_135 : decode cX9_draw 135 = .ok (.if_icmp .eq 34, 3) := by decide +kernel
theorem dX9_draw_138 : decode cX9_draw 138 = .ok (.iload 7, 2) := by decide +kernel
theorem dX9_draw_140 : decode cX9_draw 140 = .ok (.aload_n 0, 1) := by decide +kernel
theorem dX9_draw_141 : decode cX9_draw 141 = .ok (.getfield 73, 3) := by decide +kernel
theorem dX9_draw_144 : decode cX9_draw 144 = .ok (.iload 4, 2) := by decide +kernel
theorem dX9_draw_146 : decode cX9_draw 146 = .ok (.iconst 1, 1) := by decide +kernel
theorem dX9_draw_147 : decode cX9_draw 147 = .ok (.iload 6, 2) := by decide +kernel
theorem dX9_draw_149 : decode cX9_draw 149 = .ok (.ishl, 1) := by decide +kernel
theorem dX9_draw_150 : decode cX9_draw 150 = .ok (.iconst (-1), 1) := by decide +kernel
theorem dX9_draw_151 : decode cX9_draw 151 = .ok (.ixor, 1) := by decide +kernel
theorem dX9_draw_152 : decode cX9_draw 152 = .ok (.iand, 1) := by decide +kernel
theorem dX9_draw_153 : decode cX9_draw 153 = .ok (.iaload, 1) := by decide +kernel
theorem dX9_draw_154 : decode cX9_draw 154 = .ok (.iadd, 1) := by decide +kernel
theorem dX9_draw_155 : decode cX9_draw 155 = .ok (.aload_n 0, 1) := by decide +kernel
theorem dX9_draw_156 : decode cX9_draw 156 = .ok (.getfield 73, 3) := by decide +kernel
theorem dX9_draw_159 : decode cX9_draw 159 = .ok (.iload_n 1, 1) := by decide +kernel
theorem dX9_draw_160 : decode cX9_draw 160 = .ok (.iaload, 1) := by decide +kernel
theorem dX9_draw_161 : decode cX9_draw 161 = .ok (.if_icmp .ne 8, 3) := by decide +kernel
theorem dX9_draw_164 : decode cX9_draw 164 = .ok (.iload 6, 2) := by decide +kernel
theorem dX9_draw_166 : decode cX9_draw 166 = .ok (.goto 5, 3) := by decide +kernel
theorem dX9_draw_169 : decode cX9_draw 169 = .ok (.bipush (-9), 2) := by decide +kernel
theorem dX9_draw_171 : decode cX9_draw 171 = .ok (.istore 5, 2) := by decide +kernel
theorem dX9_draw_173 : decode cX9_draw 173 = .ok (.iinc 6 1, 3) := by decide +kernel
theorem dX9_draw_176 : decode cX9_draw 176 = .ok (.goto (-86), 3) := by decide +kernel
theorem dX9_draw_179 : decode cX9_draw 179 = .ok (.iload 5, 2) := by decide +kernel
theorem dX9_draw_181 : decode cX9_draw 181 = .ok (.bipush (-9), 2) := by decide +kernel
theorem dX9_draw_183 : decode cX9_draw 183 = .ok (.if_icmp .ne 26, 3) := by decide +kernel
theorem dX9_draw_186 : decode cX9_draw 186 = .ok (.aload_n 0, 1) := by decide +kernel
theorem dX9_draw_187 : decode cX9_draw 187 = .ok (.dup, 1) := by decide +kernel
theorem dX9_draw_188 : decode cX9_draw 188 = .ok (.getfield 197, 3) := by decide +kernel
theorem dX9_draw_191 : decode cX9_draw 191 = .ok (.iconst 1, 1) := by decide +kernel
theorem dX9_draw_192 : decode cX9_draw 192 = .ok (.aload_n 0, 1) := by decide +kernel
theorem dX9_draw_193 : decode cX9_draw 193 = .ok (.getfield 66, 3) := by decide +kernel
theorem dX9_draw_196 : decode cX9_draw 196 = .ok (.iload_n 3, 1) := by decide +kernel
theorem dX9_draw_197 : decode cX9_draw 197 = .ok (.iaload, 1) := by decide +kernel
theorem dX9_draw_198 : decode cX9_draw 198 = .ok (.ishl, 1) := by decide +kernel
theorem dX9_draw_199 : decode cX9_draw 199 = .ok (.ior, 1) := by decide +kernel
theorem dX9_draw_200 : decode cX9_draw 200 = .ok (.putfield 197, 3) := by decide +kernel
theorem dX9_draw_203 : decode cX9_draw 203 = .ok (.iload 4, 2) := by decide +kernel
theorem dX9_draw_205 : decode cX9_draw 205 = .ok (.istore_n 1, 1) := by decide +kernel
theorem dX9_draw_206 : decode cX9_draw 206 = .ok (.goto 33, 3) := by decide +kernel
theorem dX9_draw_209 : decode cX9_draw 209 = .ok (.aload_n 0, 1) := by decide +kernel
theorem dX9_draw_210 : decode cX9_draw 210 = .ok (.aload_n 0, 1) := by decide +kernel
theorem dX9_draw_211 : decode cX9_draw 211 = .ok (.getfield 66, 3) := by decide +kernel
theorem dX9_draw_214 : decode cX9_draw 214 = .ok (.iload_n 3, 1) := by decide +kernel
theorem dX9_draw_215 : decode cX9_draw 215 = .ok (.iaload, 1) := by decide +kernel
theorem dX9_draw_216 : decode cX9_draw 216 = .ok (.aload_n 0, 1) := by decide +kernel
theorem dX9_draw_217 : decode cX9_draw 217 = .ok (.getfield 66, 3) := by decide +kernel
theorem dX9_draw_220 : decode cX9_draw 220 = .ok (.iload 5, 2) := by decide +kernel
theorem dX9_draw_222 : decode cX9_draw 222 = .ok (.iaload, 1) := by decide +kernel
theorem dX9_draw_223 : decode cX9_draw 223 = .ok (.invokevirtual 200, 3) := by decide +kernel
theorem dX9_draw_226 : decode cX9_draw 226 = .ok (.iinc 2 1, 3) := by decide +kernel
theorem dX9_draw_229 : decode cX9_draw 229 = .ok (.iload 4, 2) := by decide +kernel
theorem dX9_draw_231 : decode cX9_draw 231 = .ok (.iconst 1, 1) := by decide +kernel
theorem dX9_draw_232 : decode cX9_draw 232 = .ok (.iload 5, 2) := by decide +kernel
theorem dX9_draw_234 : decode cX9_draw 234 = .ok (.ishl, 1) := by decide +kernel
theorem dX9_draw_235 : decode cX9_draw 235 = .ok (.iconst (-1), 1) := by decide +kernel
theorem dX9_draw_236 : decode cX9_draw 236 = .ok (.ixor, 1) := by decide +kernel
theorem dX9_draw_237 : decode cX9_draw 237 = .ok (.iand, 1) := by decide +kernel
theorem dX9_draw_238 : decode cX9_draw 238 = .ok (.istore_n 1, 1) := by decide +kernel
theorem dX9_draw_239 : decode cX9_draw 239 = .ok (.goto (-177), 3) := by decide +kernel
theorem dX9_draw_242 : decode cX9_draw 242 = .ok (.iconst 0, 1) := by decide +kernel
theorem dX9_draw_243 : decode cX9_draw 243 = .ok (.istore_n 3, 1) := by decide +kernel
theorem dX9_draw_244 : decode cX9_draw 244 = .ok (.iload_n 3, 1) := by decide +kernel
theorem dX9_draw_245 : decode cX9_draw 245 = .ok (.aload_n 0, 1) := by decide +kernel
theorem dX9_draw_246 : decode cX9_draw 246 = .ok (.getfield 126, 3) := by decide +kernel
theorem dX9_draw_249 : decode cX9_draw 249 = .ok (.if_icmp .ge 42, 3) := by decide +kernel
theorem dX9_draw_252 : decode cX9_draw 252 = .ok (.aload_n 0, 1) := by decide +kernel
theorem dX9_draw_253 : decode cX9_draw 253 = .ok (.getfield 32, 3) := by decide +kernel
theorem dX9_draw_256 : decode cX9_draw 256 = .ok (.aload_n 0, 1) := by decide +kernel
theorem dX9_draw_257 : decode cX9_draw 257 = .ok (.getfield 41, 3) := by decide +kernel
theorem dX9_draw_260 : decode cX9_draw 260 = .ok (.iload_n 3, 1) := by decide +kernel
theorem dX9_draw_261 : decode cX9_draw 261 = .ok (.iaload, 1) := by decide +kernel
theorem dX9_draw_262 : decode cX9_draw 262 = .ok (.dup2, 1) := by decide +kernel
theorem dX9_draw_263 : decode cX9_draw 263 = .ok (.iaload, 1) := by decide +kernel
theorem dX9_draw_264 : decode cX9_draw 264 = .ok (.aload_n 0, 1) := by decide +kernel
theorem dX9_draw_265 : decode cX9_draw 265 = .ok (.getfield 26, 3) := by decide +kernel
theorem dX9_draw_268 : decode cX9_draw 268 = .ok (.aload_n 0, 1) := by decide +kernel
theorem dX9_draw_269 : decode cX9_draw 269 = .ok (.getfield 41, 3) := by decide +kernel
theorem dX9_draw_272 : decode cX9_draw 272 = .ok (.iload_n 3, 1) := by decide +kernel
theorem dX9_draw_273 : decode cX9_draw 273 = .ok (.iaload, 1) := by decide +kernel
theorem dX9_draw_274 : decode cX9_draw 274 = .ok (.baload, 1) := by decide +kernel
theorem dX9_draw_275 : decode cX9_draw 275 = .ok (.ifCond .eq 7, 3) := by decide +kernel
theorem dX9_draw_278 : decode cX9_draw 278 = .ok (.iconst 1, 1) := by decide +kernel
theorem dX9_draw_279 : decode cX9_draw 279 = .ok (.goto 4, 3) := by decide +kernel
theorem dX9_draw_282 : decode cX9_draw 282 = .ok (.iconst 0, 1) := by decide +kernel
theorem dX9_draw_283 : decode cX9_draw 283 = .ok (.iadd, 1) := by decide +kernel
theorem dX9_draw_284 : decode cX9_draw 284 = .ok (.iastore, 1) := by decide +kernel
theorem dX9_draw_285 : decode cX9_draw 285 = .ok (.iinc 3 1, 3) := by decide +kernel
theorem dX9_draw_288 : decode cX9_draw 288 = .ok (.goto (-44), 3) := by decide +kernel
theorem dX9_draw_291 : decode cX9_draw 291 = .ok (.aload_n 0, 1) := by decide +kernel
theorem dX9_draw_292 : decode cX9_draw 292 = .ok (.dup, 1) := by decide +kernel
theorem dX9_draw_293 : decode cX9_draw 293 = .ok (.getfield 167, 3) := by decide +kernel
theorem dX9_draw_296 : decode cX9_draw 296 = .ok (.iconst 1, 1) := by decide +kernel
theorem dX9_draw_297 : decode cX9_draw 297 = .ok (.iadd, 1) := by decide +kernel
theorem dX9_draw_298 : decode cX9_draw 298 = .ok (.putfield 167, 3) := by decide +kernel
theorem dX9_draw_301 : decode cX9_draw 301 = .ok (.iload_n 2, 1) := by decide +kernel
theorem dX9_draw_302 : decode cX9_draw 302 = .ok (.ireturn, 1) := by decide +kernel
theorem dX9_cost_0 : decode cX9_cost 0 = .ok (.aload_n 0, 1) := by decide +kernel
theorem dX9_cost_1 : decode cX9_cost 1 = .ok (.getfield 194, 3) := by decide +kernel
theorem dX9_cost_4 : decode cX9_cost 4 = .ok (.ireturn, 1) := by decide +kernel
theorem dX9_result_0 : decode cX9_result 0 = .ok (.iload_n 1, 1) := by decide +kernel
theorem dX9_result_1 : decode cX9_result 1 = .ok (.iconst 0, 1) := by decide +kernel
theorem dX9_result_2 : decode cX9_result 2 = .ok (.aload_n 0, 1) := by decide +kernel
theorem dX9_result_3 : decode cX9_result 3 = .ok (.getfield 170, 3) := by decide +kernel
theorem dX9_result_6 : decode cX9_result 6 = .ok (.iconst 1, 1) := by decide +kernel
theorem dX9_result_7 : decode cX9_result 7 = .ok (.isub, 1) := by decide +kernel
theorem dX9_result_8 : decode cX9_result 8 = .ok (.invokestatic 122, 3) := by decide +kernel
theorem dX9_result_11 : decode cX9_result 11 = .ok (.ifCond .ne 5, 3) := by decide +kernel
theorem dX9_result_14 : decode cX9_result 14 = .ok (.iconst (-1), 1) := by decide +kernel
theorem dX9_result_15 : decode cX9_result 15 = .ok (.ireturn, 1) := by decide +kernel
theorem dX9_result_16 : decode cX9_result 16 = .ok (.aload_n 0, 1) := by decide +kernel
theorem dX9_result_17 : decode cX9_result 17 = .ok (.getfield 63, 3) := by decide +kernel
theorem dX9_result_20 : decode cX9_result 20 = .ok (.iload_n 1, 1) := by decide +kernel
theorem dX9_result_21 : decode cX9_result 21 = .ok (.iaload, 1) := by decide +kernel
theorem dX9_result_22 : decode cX9_result 22 = .ok (.bipush (-9), 2) := by decide +kernel
theorem dX9_result_24 : decode cX9_result 24 = .ok (.if_icmp .eq 6, 3) := by decide +kernel
theorem dX9_result_27 : decode cX9_result 27 = .ok (.bipush (-4), 2) := by decide +kernel
theorem dX9_result_29 : decode cX9_result 29 = .ok (.ireturn, 1) := by decide +kernel
theorem dX9_result_30 : decode cX9_result 30 = .ok (.aload_n 0, 1) := by decide +kernel
theorem dX9_result_31 : decode cX9_result 31 = .ok (.getfield 63, 3) := by decide +kernel
theorem dX9_result_34 : decode cX9_result 34 = .ok (.iload_n 1, 1) := by decide +kernel
theorem dX9_result_35 : decode cX9_result 35 = .ok (.iload_n 2, 1) := by decide +kernel
theorem dX9_result_36 : decode cX9_result 36 = .ok (.ifCond .eq 12, 3) := by decide +kernel
theorem dX9_result_39 : decode cX9_result 39 = .ok (.aload_n 0, 1) := by decide +kernel
theorem dX9_result_40 : decode cX9_result 40 = .ok (.getfield 57, 3) := by decide +kernel
theorem dX9_result_43 : decode cX9_result 43 = .ok (.iload_n 1, 1) := by decide +kernel
theorem dX9_result_44 : decode cX9_result 44 = .ok (.iaload, 1) := by decide +kernel
theorem dX9_result_45 : decode cX9_result 45 = .ok (.goto 9, 3) := by decide +kernel
theorem dX9_result_48 : decode cX9_result 48 = .ok (.aload_n 0, 1) := by decide +kernel
theorem dX9_result_49 : decode cX9_result 49 = .ok (.getfield 60, 3) := by decide +kernel
theorem dX9_result_52 : decode cX9_result 52 = .ok (.iload_n 1, 1) := by decide +kernel
theorem dX9_result_53 : decode cX9_result 53 = .ok (.iaload, 1) := by decide +kernel
theorem dX9_result_54 : decode cX9_result 54 = .ok (.iastore, 1) := by decide +kernel
theorem dX9_result_55 : decode cX9_result 55 = .ok (.aload_n 0, 1) := by decide +kernel
theorem dX9_result_56 : decode cX9_result 56 = .ok (.getfield 29, 3) := by decide +kernel
theorem dX9_result_59 : decode cX9_result 59 = .ok (.aload_n 0, 1) := by decide +kernel
theorem dX9_result_60 : decode cX9_result 60 = .ok (.getfield 63, 3) := by decide +kernel
theorem dX9_result_63 : decode cX9_result 63 = .ok (.iload_n 1, 1) := by decide +kernel
theorem dX9_result_64 : decode cX9_result 64 = .ok (.iaload, 1) := by decide +kernel
theorem dX9_result_65 : decode cX9_result 65 = .ok (.dup2, 1) := by decide +kernel
theorem dX9_result_66 : decode cX9_result 66 = .ok (.iaload, 1) := by decide +kernel
theorem dX9_result_67 : decode cX9_result 67 = .ok (.iconst 1, 1) := by decide +kernel
theorem dX9_result_68 : decode cX9_result 68 = .ok (.iadd, 1) := by decide +kernel
theorem dX9_result_69 : decode cX9_result 69 = .ok (.iastore, 1) := by decide +kernel
theorem dX9_result_70 : decode cX9_result 70 = .ok (.aload_n 0, 1) := by decide +kernel
theorem dX9_result_71 : decode cX9_result 71 = .ok (.getfield 32, 3) := by decide +kernel
theorem dX9_result_74 : decode cX9_result 74 = .ok (.iload_n 2, 1) := by decide +kernel
theorem dX9_result_75 : decode cX9_result 75 = .ok (.ifCond .eq 12, 3) := by decide +kernel
theorem dX9_result_78 : decode cX9_result 78 = .ok (.aload_n 0, 1) := by decide +kernel
theorem dX9_result_79 : decode cX9_result 79 = .ok (.getfield 60, 3) := by decide +kernel
theorem dX9_result_82 : decode cX9_result 82 = .ok (.iload_n 1, 1) := by decide +kernel
theorem dX9_result_83 : decode cX9_result 83 = .ok (.iaload, 1) := by decide +kernel
theorem dX9_result_84 : decode cX9_result 84 = .ok (.goto 9, 3) := by decide +kernel
theorem dX9_result_87 : decode cX9_result 87 = .ok (.aload_n 0, 1) := by decide +kernel
theorem dX9_result_88 : decode cX9_result 88 = .ok (.getfield 57, 3) := by decide +kernel
theorem dX9_result_91 : decode cX9_result 91 = .ok (.iload_n 1, 1) := by decide +kernel
theorem dX9_result_92 : decode cX9_result 92 = .ok (.iaload, 1) := by decide +kernel
theorem dX9_result_93 : decode cX9_result 93 = .ok (.dup2, 1) := by decide +kernel
theorem dX9_result_94 : decode cX9_result 94 = .ok (.iaload, 1) := by decide +kernel
theorem dX9_result_95 : decode cX9_result 95 = .ok (.iconst 1, 1) := by decide +kernel
theorem dX9_result_96 : decode cX9_result 96 = .ok (.iadd, 1) := by decide +kernel
theorem dX9_result_97 : decode cX9_result 97 = .ok (.iastore, 1) := by decide +kernel
theorem dX9_result_98 : decode cX9_result 98 = .ok (.aload_n 0, 1) := by decide +kernel
theorem dX9_result_99 : decode cX9_result 99 = .ok (.dup, 1) := by decide +kernel
theorem dX9_result_100 : decode cX9_result 100 = .ok (.getfield 173, 3) := by decide +kernel
theorem dX9_result_103 : decode cX9_result 103 = .ok (.iconst 1, 1) := by decide +kernel
theorem dX9_result_104 : decode cX9_result 104 = .ok (.isub, 1) := by decide +kernel
theorem dX9_result_105 : decode cX9_result 105 = .ok (.putfield 173, 3) := by decide +kernel
theorem dX9_result_108 : decode cX9_result 108 = .ok (.iconst 1, 1) := by decide +kernel
theorem dX9_result_109 : decode cX9_result 109 = .ok (.ireturn, 1) := by decide +kernel
theorem dX9_boutTold_0 : decode cX9_boutTold 0 = .ok (.iload_n 2, 1) := by decide +kernel
theorem dX9_boutTold_1 : decode cX9_boutTold 1 = .ok (.ifCond .ne 12, 3) := by decide +kernel
theorem dX9_boutTold_4 : decode cX9_boutTold 4 = .ok (.aload_n 0, 1) := by decide +kernel
theorem dX9_boutTold_5 : decode cX9_boutTold 5 = .ok (.getfield 54, 3) := by decide +kernel
theorem dX9_boutTold_8 : decode cX9_boutTold 8 = .ok (.iload_n 1, 1) := by decide +kernel
theorem dX9_boutTold_9 : decode cX9_boutTold 9 = .ok (.iaload, 1) := by decide +kernel
theorem dX9_boutTold_10 : decode cX9_boutTold 10 = .ok (.goto 37, 3) := by decide +kernel
theorem dX9_boutTold_13 : decode cX9_boutTold 13 = .ok (.iload_n 2, 1) := by decide +kernel
theorem dX9_boutTold_14 : decode cX9_boutTold 14 = .ok (.iconst 1, 1) := by decide +kernel
theorem dX9_boutTold_15 : decode cX9_boutTold 15 = .ok (.if_icmp .ne 12, 3) := by decide +kernel
theorem dX9_boutTold_18 : decode cX9_boutTold 18 = .ok (.aload_n 0, 1) := by decide +kernel
theorem dX9_boutTold_19 : decode cX9_boutTold 19 = .ok (.getfield 57, 3) := by decide +kernel
theorem dX9_boutTold_22 : decode cX9_boutTold 22 = .ok (.iload_n 1, 1) := by decide +kernel
theorem dX9_boutTold_23 : decode cX9_boutTold 23 = .ok (.iaload, 1) := by decide +kernel
theorem dX9_boutTold_24 : decode cX9_boutTold 24 = .ok (.goto 23, 3) := by decide +kernel
theorem dX9_boutTold_27 : decode cX9_boutTold 27 = .ok (.iload_n 2, 1) := by decide +kernel
theorem dX9_boutTold_28 : decode cX9_boutTold 28 = .ok (.iconst 2, 1) := by decide +kernel
theorem dX9_boutTold_29 : decode cX9_boutTold 29 = .ok (.if_icmp .ne 12, 3) := by decide +kernel
theorem dX9_boutTold_32 : decode cX9_boutTold 32 = .ok (.aload_n 0, 1) := by decide +kernel
theorem dX9_boutTold_33 : decode cX9_boutTold 33 = .ok (.getfield 60, 3) := by decide +kernel
theorem dX9_boutTold_36 : decode cX9_boutTold 36 = .ok (.iload_n 1, 1) := by decide +kernel
theorem dX9_boutTold_37 : decode cX9_boutTold 37 = .ok (.iaload, 1) := by decide +kernel
theorem dX9_boutTold_38 : decode cX9_boutTold 38 = .ok (.goto 9, 3) := by decide +kernel
theorem dX9_boutTold_41 : decode cX9_boutTold 41 = .ok (.aload_n 0, 1) := by decide +kernel
theorem dX9_boutTold_42 : decode cX9_boutTold 42 = .ok (.getfield 63, 3) := by decide +kernel
theorem dX9_boutTold_45 : decode cX9_boutTold 45 = .ok (.iload_n 1, 1) := by decide +kernel
theorem dX9_boutTold_46 : decode cX9_boutTold 46 = .ok (.iaload, 1) := by decide +kernel
theorem dX9_boutTold_47 : decode cX9_boutTold 47 = .ok (.ireturn, 1) := by decide +kernel
theorem dX9_bout_0 : decode cX9_bout 0 = .ok (.iload_n 1, 1) := by decide +kernel
theorem dX9_bout_1 : decode cX9_bout 1 = .ok (.iconst 0, 1) := by decide +kernel
theorem dX9_bout_2 : decode cX9_bout 2 = .ok (.aload_n 0, 1) := by decide +kernel
theorem dX9_bout_3 : decode cX9_bout 3 = .ok (.getfield 170, 3) := by decide +kernel
theorem dX9_bout_6 : decode cX9_bout 6 = .ok (.iconst 1, 1) := by decide +kernel
theorem dX9_bout_7 : decode cX9_bout 7 = .ok (.isub, 1) := by decide +kernel
theorem dX9_bout_8 : decode cX9_bout 8 = .ok (.invokestatic 122, 3) := by decide +kernel
theorem dX9_bout_11 : decode cX9_bout 11 = .ok (.ifCond .eq 21, 3) := by decide +kernel
theorem dX9_bout_14 : decode cX9_bout 14 = .ok (.iload_n 2, 1) := by decide +kernel
theorem dX9_bout_15 : decode cX9_bout 15 = .ok (.iconst 0, 1) := by decide +kernel
theorem dX9_bout_16 : decode cX9_bout 16 = .ok (.iconst 3, 1) := by decide +kernel
theorem dX9_bout_17 : decode cX9_bout 17 = .ok (.invokestatic 122, 3) := by decide +kernel
theorem dX9_bout_20 : decode cX9_bout 20 = .ok (.ifCond .eq 12, 3) := by decide +kernel
theorem dX9_bout_23 : decode cX9_bout 23 = .ok (.aload_n 0, 1) := by decide +kernel
theorem dX9_bout_24 : decode cX9_bout 24 = .ok (.iload_n 1, 1) := by decide +kernel
theorem dX9_bout_25 : decode cX9_bout 25 = .ok (.iload_n 2, 1) := by decide +kernel
theorem dX9_bout_26 : decode cX9_bout 26 = .ok (.invokevirtual 204, 3) := by decide +kernel
theorem dX9_bout_29 : decode cX9_bout 29 = .ok (.goto 4, 3) := by decide +kernel
theorem dX9_bout_32 : decode cX9_bout 32 = .ok (.iconst (-1), 1) := by decide +kernel
theorem dX9_bout_33 : decode cX9_bout 33 = .ok (.ireturn, 1) := by decide +kernel
theorem dX9_sat_0 : decode cX9_sat 0 = .ok (.aload_n 0, 1) := by decide +kernel
theorem dX9_sat_1 : decode cX9_sat 1 = .ok (.getfield 197, 3) := by decide +kernel
theorem dX9_sat_4 : decode cX9_sat 4 = .ok (.ireturn, 1) := by decide +kernel
theorem dX9_line_0 : decode cX9_line 0 = .ok (.iload_n 1, 1) := by decide +kernel
theorem dX9_line_1 : decode cX9_line 1 = .ok (.iload_n 2, 1) := by decide +kernel
theorem dX9_line_2 : decode cX9_line 2 = .ok (.if_icmp .gt 14, 3) := by decide +kernel
theorem dX9_line_5 : decode cX9_line 5 = .ok (.iload_n 3, 1) := by decide +kernel
theorem dX9_line_6 : decode cX9_line 6 = .ok (.bipush (-15), 2) := by decide +kernel
theorem dX9_line_8 : decode cX9_line 8 = .ok (.bipush 15, 2) := by decide +kernel
theorem dX9_line_10 : decode cX9_line 10 = .ok (.invokestatic 122, 3) := by decide +kernel
theorem dX9_line_13 : decode cX9_line 13 = .ok (.ifCond .ne 5, 3) := by decide +kernel
theorem dX9_line_16 : decode cX9_line 16 = .ok (.iconst (-1), 1) := by decide +kernel
theorem dX9_line_17 : decode cX9_line 17 = .ok (.ireturn, 1) := by decide +kernel
theorem dX9_line_18 : decode cX9_line 18 = .ok (.aload_n 0, 1) := by decide +kernel
theorem dX9_line_19 : decode cX9_line 19 = .ok (.getfield 207, 3) := by decide +kernel
theorem dX9_line_22 : decode cX9_line 22 = .ok (.bipush 12, 2) := by decide +kernel
theorem dX9_line_24 : decode cX9_line 24 = .ok (.if_icmp .ne 6, 3) := by decide +kernel
theorem dX9_line_27 : decode cX9_line 27 = .ok (.bipush (-2), 2) := by decide +kernel
theorem dX9_line_29 : decode cX9_line 29 = .ok (.ireturn, 1) := by decide +kernel
theorem dX9_line_30 : decode cX9_line 30 = .ok (.aload_n 0, 1) := by decide +kernel
theorem dX9_line_31 : decode cX9_line 31 = .ok (.getfield 76, 3) := by decide +kernel
theorem dX9_line_34 : decode cX9_line 34 = .ok (.aload_n 0, 1) := by decide +kernel
theorem dX9_line_35 : decode cX9_line 35 = .ok (.getfield 207, 3) := by decide +kernel
theorem dX9_line_38 : decode cX9_line 38 = .ok (.iload_n 1, 1) := by decide +kernel
theorem dX9_line_39 : decode cX9_line 39 = .ok (.iastore, 1) := by decide +kernel
theorem dX9_line_40 : decode cX9_line 40 = .ok (.aload_n 0, 1) := by decide +kernel
theorem dX9_line_41 : decode cX9_line 41 = .ok (.getfield 79, 3) := by decide +kernel
theorem dX9_line_44 : decode cX9_line 44 = .ok (.aload_n 0, 1) := by decide +kernel
theorem dX9_line_45 : decode cX9_line 45 = .ok (.getfield 207, 3) := by decide +kernel
theorem dX9_line_48 : decode cX9_line 48 = .ok (.iload_n 2, 1) := by decide +kernel
theorem dX9_line_49 : decode cX9_line 49 = .ok (.iastore, 1) := by decide +kernel
theorem dX9_line_50 : decode cX9_line 50 = .ok (.aload_n 0, 1) := by decide +kernel
theorem dX9_line_51 : decode cX9_line 51 = .ok (.getfield 82, 3) := by decide +kernel
theorem dX9_line_54 : decode cX9_line 54 = .ok (.aload_n 0, 1) := by decide +kernel
theorem dX9_line_55 : decode cX9_line 55 = .ok (.getfield 207, 3) := by decide +kernel
theorem dX9_line_58 : decode cX9_line 58 = .ok (.iload_n 3, 1) := by decide +kernel
theorem dX9_line_59 : decode cX9_line 59 = .ok (.iastore, 1) := by decide +kernel
theorem dX9_line_60 : decode cX9_line 60 = .ok (.aload_n 0, 1) := by decide +kernel
theorem dX9_line_61 : decode cX9_line 61 = .ok (.dup, 1) := by decide +kernel
theorem dX9_line_62 : decode cX9_line 62 = .ok (.getfield 207, 3) := by decide +kernel
theorem dX9_line_65 : decode cX9_line 65 = .ok (.iconst 1, 1) := by decide +kernel
theorem dX9_line_66 : decode cX9_line 66 = .ok (.iadd, 1) := by decide +kernel
theorem dX9_line_67 : decode cX9_line 67 = .ok (.putfield 207, 3) := by decide +kernel
theorem dX9_line_70 : decode cX9_line 70 = .ok (.aload_n 0, 1) := by decide +kernel
theorem dX9_line_71 : decode cX9_line 71 = .ok (.getfield 207, 3) := by decide +kernel
theorem dX9_line_74 : decode cX9_line 74 = .ok (.iconst 1, 1) := by decide +kernel
theorem dX9_line_75 : decode cX9_line 75 = .ok (.isub, 1) := by decide +kernel
theorem dX9_line_76 : decode cX9_line 76 = .ok (.ireturn, 1) := by decide +kernel
theorem dX9_lineFor_0 : decode cX9_lineFor 0 = .ok (.iconst 0, 1) := by decide +kernel
theorem dX9_lineFor_1 : decode cX9_lineFor 1 = .ok (.istore_n 3, 1) := by decide +kernel
theorem dX9_lineFor_2 : decode cX9_lineFor 2 = .ok (.iload_n 3, 1) := by decide +kernel
theorem dX9_lineFor_3 : decode cX9_lineFor 3 = .ok (.iload_n 2, 1) := by decide +kernel
theorem dX9_lineFor_4 : decode cX9_lineFor 4 = .ok (.if_icmp .ge 30, 3) := by decide +kernel
theorem dX9_lineFor_7 : decode cX9_lineFor 7 = .ok (.iload_n 1, 1) := by decide +kernel
theorem dX9_lineFor_8 : decode cX9_lineFor 8 = .ok (.aload_n 0, 1) := by decide +kernel
theorem dX9_lineFor_9 : decode cX9_lineFor 9 = .ok (.getfield 76, 3) := by decide +kernel
theorem dX9_lineFor_12 : decode cX9_lineFor 12 = .ok (.iload_n 3, 1) := by decide +kernel
theorem dX9_lineFor_13 : decode cX9_lineFor 13 = .ok (.iaload, 1) := by decide +kernel
theorem dX9_lineFor_14 : decode cX9_lineFor 14 = .ok (.aload_n 0, 1) := by decide +kernel
theorem dX9_lineFor_15 : decode cX9_lineFor 15 = .ok (.getfield 79, 3) := by decide +kernel
theorem dX9_lineFor_18 : decode cX9_lineFor 18 = .ok (.iload_n 3, 1) := by decide +kernel
theorem dX9_lineFor_19 : decode cX9_lineFor 19 = .ok (.iaload, 1) := by decide +kernel
theorem dX9_lineFor_20 : decode cX9_lineFor 20 = .ok (.invokestatic 122, 3) := by decide +kernel
theorem dX9_lineFor_23 : decode cX9_lineFor 23 = .ok (.ifCond .eq 5, 3) := by decide +kernel
theorem dX9_lineFor_26 : decode cX9_lineFor 26 = .ok (.iload_n 3, 1) := by decide +kernel
theorem dX9_lineFor_27 : decode cX9_lineFor 27 = .ok (.ireturn, 1) := by decide +kernel
theorem dX9_lineFor_28 : decode cX9_lineFor 28 = .ok (.iinc 3 1, 3) := by decide +kernel
theorem dX9_lineFor_31 : decode cX9_lineFor 31 = .ok (.goto (-29), 3) := by decide +kernel
theorem dX9_lineFor_34 : decode cX9_lineFor 34 = .ok (.bipush (-9), 2) := by decide +kernel
theorem dX9_lineFor_36 : decode cX9_lineFor 36 = .ok (.ireturn, 1) := by decide +kernel
theorem dX9_goesUp_0 : decode cX9_goesUp 0 = .ok (.iload_n 2, 1) := by decide +kernel
theorem dX9_goesUp_1 : decode cX9_goesUp 1 = .ok (.bipush (-9), 2) := by decide +kernel
theorem dX9_goesUp_3 : decode cX9_goesUp 3 = .ok (.if_icmp .ne 7, 3) := by decide +kernel
theorem dX9_goesUp_6 : decode cX9_goesUp 6 = .ok (.iconst 0, 1) := by decide +kernel
theorem dX9_goesUp_7 : decode cX9_goesUp 7 = .ok (.goto 9, 3) := by decide +kernel
theorem dX9_goesUp_10 : decode cX9_goesUp 10 = .ok (.aload_n 0, 1) := by decide +kernel
theorem dX9_goesUp_11 : decode cX9_goesUp 11 = .ok (.getfield 82, 3) := by decide +kernel
theorem dX9_goesUp_14 : decode cX9_goesUp 14 = .ok (.iload_n 2, 1) := by decide +kernel
theorem dX9_goesUp_15 : decode cX9_goesUp 15 = .ok (.iaload, 1) := by decide +kernel
theorem dX9_goesUp_16 : decode cX9_goesUp 16 = .ok (.istore_n 3, 1) := by decide +kernel
theorem dX9_goesUp_17 : decode cX9_goesUp 17 = .ok (.aload_n 0, 1) := by decide +kernel
theorem dX9_goesUp_18 : decode cX9_goesUp 18 = .ok (.getfield 13, 3) := by decide +kernel
theorem dX9_goesUp_21 : decode cX9_goesUp 21 = .ok (.iload_n 1, 1) := by decide +kernel
theorem dX9_goesUp_22 : decode cX9_goesUp 22 = .ok (.iaload, 1) := by decide +kernel
theorem dX9_goesUp_23 : decode cX9_goesUp 23 = .ok (.iconst 1, 1) := by decide +kernel
theorem dX9_goesUp_24 : decode cX9_goesUp 24 = .ok (.if_icmp .ne 12, 3) := by decide +kernel
theorem dX9_goesUp_27 : decode cX9_goesUp 27 = .ok (.iload_n 3, 1) := by decide +kernel
theorem dX9_goesUp_28 : decode cX9_goesUp 28 = .ok (.iconst (-1), 1) := by decide +kernel
theorem dX9_goesUp_29 : decode cX9_goesUp 29 = .ok (.if_icmp .ge 7, 3) := by decide +kernel
theorem dX9_goesUp_32 : decode cX9_goesUp 32 = .ok (.iconst (-1), 1) := by decide +kernel
theorem dX9_goesUp_33 : decode cX9_goesUp 33 = .ok (.goto 24, 3) := by decide +kernel
theorem dX9_goesUp_36 : decode cX9_goesUp 36 = .ok (.aload_n 0, 1) := by decide +kernel
theorem dX9_goesUp_37 : decode cX9_goesUp 37 = .ok (.getfield 13, 3) := by decide +kernel
theorem dX9_goesUp_40 : decode cX9_goesUp 40 = .ok (.iload_n 1, 1) := by decide +kernel
theorem dX9_goesUp_41 : decode cX9_goesUp 41 = .ok (.iaload, 1) := by decide +kernel
theorem dX9_goesUp_42 : decode cX9_goesUp 42 = .ok (.iconst 2, 1) := by decide +kernel
theorem dX9_goesUp_43 : decode cX9_goesUp 43 = .ok (.if_icmp .ne 13, 3) := by decide +kernel
theorem dX9_goesUp_46 : decode cX9_goesUp 46 = .ok (.iload_n 3, 1) := by decide +kernel
theorem dX9_goesUp_47 : decode cX9_goesUp 47 = .ok (.ifCond .le 9, 3) := by decide +kernel
theorem dX9_goesUp_50 : decode cX9_goesUp 50 = .ok (.iconst 2, 1) := by decide +kernel
theorem dX9_goesUp_51 : decode cX9_goesUp 51 = .ok (.iload_n 3, 1) := by decide +kernel
theorem dX9_goesUp_52 : decode cX9_goesUp 52 = .ok (.imul, 1) := by decide +kernel
theorem dX9_goesUp_53 : decode cX9_goesUp 53 = .ok (.goto 4, 3) := by decide +kernel
theorem dX9_goesUp_56 : decode cX9_goesUp 56 = .ok (.iload_n 3, 1) := by decide +kernel
theorem dX9_goesUp_57 : decode cX9_goesUp 57 = .ok (.ireturn, 1) := by decide +kernel
theorem dX9_order_0 : decode cX9_order 0 = .ok (.iconst 0, 1) := by decide +kernel
theorem dX9_order_1 : decode cX9_order 1 = .ok (.istore 4, 2) := by decide +kernel
theorem dX9_order_3 : decode cX9_order 3 = .ok (.iload 4, 2) := by decide +kernel
theorem dX9_order_5 : decode cX9_order 5 = .ok (.aload_n 0, 1) := by decide +kernel
theorem dX9_order_6 : decode cX9_order 6 = .ok (.getfield 126, 3) := by decide +kernel
theorem dX9_order_9 : decode cX9_order 9 = .ok (.if_icmp .ge 130, 3) := by decide +kernel
theorem dX9_order_12 : decode cX9_order 12 = .ok (.aload_n 1, 1) := by decide +kernel
theorem dX9_order_13 : decode cX9_order 13 = .ok (.iload 4, 2) := by decide +kernel
theorem dX9_order_15 : decode cX9_order 15 = .ok (.iaload, 1) := by decide +kernel
theorem dX9_order_16 : decode cX9_order 16 = .ok (.istore 5, 2) := by decide +kernel
theorem dX9_order_18 : decode cX9_order 18 = .ok (.aload_n 0, 1) := by decide +kernel
theorem dX9_order_19 : decode cX9_order 19 = .ok (.iload 5, 2) := by decide +kernel
theorem dX9_order_21 : decode cX9_order 21 = .ok (.aload_n 0, 1) := by decide +kernel
theorem dX9_order_22 : decode cX9_order 22 = .ok (.aload_n 2, 1) := by decide +kernel
theorem dX9_order_23 : decode cX9_order 23 = .ok (.iload 5, 2) := by decide +kernel
theorem dX9_order_25 : decode cX9_order 25 = .ok (.iaload, 1) := by decide +kernel
theorem dX9_order_26 : decode cX9_order 26 = .ok (.iload_n 3, 1) := by decide +kernel
theorem dX9_order_27 : decode cX9_order 27 = .ok (.invokevirtual 210, 3) := by decide +kernel
theorem dX9_order_30 : decode cX9_order 30 = .ok (.invokevirtual 213, 3) := by decide +kernel
theorem dX9_order_33 : decode cX9_order 33 = .ok (.istore 6, 2) := by decide +kernel
theorem dX9_order_35 : decode cX9_order 35 = .ok (.aload_n 0, 1) := by decide +kernel
theorem dX9_order_36 : decode cX9_order 36 = .ok (.getfield 97, 3) := by decide +kernel
theorem dX9_order_39 : decode cX9_order 39 = .ok (.iload 5, 2) := by decide +kernel
theorem dX9_order_41 : decode cX9_order 41 = .ok (.iconst 2, 1) := by decide +kernel
theorem dX9_order_42 : decode cX9_order 42 = .ok (.iload 4, 2) := by decide +kernel
theorem dX9_order_44 : decode cX9_order 44 = .ok (.iload 6, 2) := by decide +kernel
theorem dX9_order_46 : decode cX9_order 46 = .ok (.isub, 1) := by decide +kernel
theorem dX9_order_47 : decode cX9_order 47 = .ok (.imul, 1) := by decide +kernel
theorem dX9_order_48 : decode cX9_order 48 = .ok (.iload 6, 2) := by decide +kernel
theorem dX9_order_50 : decode cX9_order 50 = .ok (.ifCond .le 7, 3) := by decide +kernel
theorem dX9_order_53 : decode cX9_order 53 = .ok (.iconst (-1), 1) := by decide +kernel
theorem dX9_order_54 : decode cX9_order 54 = .ok (.goto 13, 3) := by decide +kernel
theorem dX9_order_57 : decode cX9_order 57 = .ok (.iload 6, 2) := by decide +kernel
theorem dX9_order_59 : decode cX9_order 59 = .ok (.ifCond .ge 7, 3) := by decide +kernel
theorem dX9_order_62 : decode cX9_order 62 = .ok (.iconst 1, 1) := by decide +kernel
theorem dX9_order_63 : decode cX9_order 63 = .ok (.goto 4, 3) := by decide +kernel
theorem dX9_order_66 : decode cX9_order 66 = .ok (.iconst 0, 1) := by decide +kernel
theorem dX9_order_67 : decode cX9_order 67 = .ok (.iadd, 1) := by decide +kernel
theorem dX9_order_68 : decode cX9_order 68 = .ok (.iastore, 1) := by decide +kernel
theorem dX9_order_69 : decode cX9_order 69 = .ok (.iload 4, 2) := by decide +kernel
theorem dX9_order_71 : decode cX9_order 71 = .ok (.istore 7, 2) := by decide +kernel
theorem dX9_order_73 : decode cX9_order 73 = .ok (.iload 7, 2) := by decide +kernel
theorem dX9_order_75 : decode cX9_order 75 = .ok (.ifCond .le 49, 3) := by decide +kernel
theorem dX9_order_78 : decode cX9_order 78 = .ok (.aload_n 0, 1) := by decide +kernel
theorem dX9_order_79 : decode cX9_order 79 = .ok (.getfield 97, 3) := by decide +kernel
theorem dX9_order_82 : decode cX9_order 82 = .ok (.aload_n 0, 1) := by decide +kernel
theorem dX9_order_83 : decode cX9_order 83 = .ok (.getfield 100, 3) := by decide +kernel
theorem dX9_order_86 : decode cX9_order 86 = .ok (.iload 7, 2) := by decide +kernel
theorem dX9_order_88 : decode cX9_order 88 = .ok (.iconst 1, 1) := by decide +kernel
theorem dX9_order_89 : decode cX9_order 89 = .ok (.isub, 1) := by decide +kernel
theorem dX9_order_90 : decode cX9_order 90 = .ok (.iaload, 1) := by decide +kernel
theorem dX9_order_91 : decode cX9_order 91 = .ok (.iaload, 1) := by decide +kernel
theorem dX9_order_92 : decode cX9_order 92 = .ok (.aload_n 0, 1) := by decide +kernel
theorem dX9_order_93 : decode cX9_order 93 = .ok (.getfield 97, 3) := by decide +kernel
theorem dX9_order_96 : decode cX9_order 96 = .ok (.iload 5, 2) := by decide +kernel
theorem dX9_order_98 : decode cX9_order 98 = .ok (.iaload, 1) := by decide +kernel
theorem dX9_order_99 : decode cX9_order 99 = .ok (.if_icmp .le 25, 3) := by decide +kernel
theorem dX9_order_102 : decode cX9_order 102 = .ok (.aload_n 0, 1) := by decide +kernel
theorem dX9_order_103 : decode cX9_order 103 = .ok (.getfield 100, 3) := by decide +kernel
theorem dX9_order_106 : decode cX9_order 106 = .ok (.iload 7, 2) := by decide +kernel
theorem dX9_order_108 : decode cX9_order 108 = .ok (.aload_n 0, 1) := by decide +kernel
theorem dX9_order_109 : decode cX9_order 109 = .ok (.getfield 100, 3) := by decide +kernel
theorem dX9_order_112 : decode cX9_order 112 = .ok (.iload 7, 2) := by decide +kernel
theorem dX9_order_114 : decode cX9_order 114 = .ok (.iconst 1, 1) := by decide +kernel
theorem dX9_order_115 : decode cX9_order 115 = .ok (.isub, 1) := by decide +kernel
theorem dX9_order_116 : decode cX9_order 116 = .ok (.iaload, 1) := by decide +kernel
theorem dX9_order_117 : decode cX9_order 117 = .ok (.iastore, 1) := by decide +kernel
theorem dX9_order_118 : decode cX9_order 118 = .ok (.iinc 7 (-1), 3) := by decide +kernel
theorem dX9_order_121 : decode cX9_order 121 = .ok (.goto (-48), 3) := by decide +kernel
theorem dX9_order_124 : decode cX9_order 124 = .ok (.aload_n 0, 1) := by decide +kernel
theorem dX9_order_125 : decode cX9_order 125 = .ok (.getfield 100, 3) := by decide +kernel
theorem dX9_order_128 : decode cX9_order 128 = .ok (.iload 7, 2) := by decide +kernel
theorem dX9_order_130 : decode cX9_order 130 = .ok (.iload 5, 2) := by decide +kernel
theorem dX9_order_132 : decode cX9_order 132 = .ok (.iastore, 1) := by decide +kernel
theorem dX9_order_133 : decode cX9_order 133 = .ok (.iinc 4 1, 3) := by decide +kernel
theorem dX9_order_136 : decode cX9_order 136 = .ok (.goto (-133), 3) := by decide +kernel
theorem dX9_order_139 : decode cX9_order 139 = .ok (.return_, 1) := by decide +kernel
theorem dX9_anew_0 : decode cX9_anew 0 = .ok (.aload_n 0, 1) := by decide +kernel
theorem dX9_anew_1 : decode cX9_anew 1 = .ok (.getfield 132, 3) := by decide +kernel
theorem dX9_anew_4 : decode cX9_anew 4 = .ok (.ifCond .eq 29, 3) := by decide +kernel
theorem dX9_anew_7 : decode cX9_anew 7 = .ok (.aload_n 0, 1) := by decide +kernel
theorem dX9_anew_8 : decode cX9_anew 8 = .ok (.getfield 167, 3) := by decide +kernel
theorem dX9_anew_11 : decode cX9_anew 11 = .ok (.aload_n 0, 1) := by decide +kernel
theorem dX9_anew_12 : decode cX9_anew 12 = .ok (.getfield 164, 3) := by decide +kernel
theorem dX9_anew_15 : decode cX9_anew 15 = .ok (.if_icmp .lt 18, 3) := by decide +kernel
theorem dX9_anew_18 : decode cX9_anew 18 = .ok (.aload_n 0, 1) := by decide +kernel
theorem dX9_anew_19 : decode cX9_anew 19 = .ok (.getfield 173, 3) := by decide +kernel
theorem dX9_anew_22 : decode cX9_anew 22 = .ok (.ifCond .gt 11, 3) := by decide +kernel
theorem dX9_anew_25 : decode cX9_anew 25 = .ok (.aload_n 0, 1) := by decide +kernel
theorem dX9_anew_26 : decode cX9_anew 26 = .ok (.getfield 216, 3) := by decide +kernel
theorem dX9_anew_29 : decode cX9_anew 29 = .ok (.iconst 1, 1) := by decide +kernel
theorem dX9_anew_30 : decode cX9_anew 30 = .ok (.if_icmp .le 6, 3) := by decide +kernel
theorem dX9_anew_33 : decode cX9_anew 33 = .ok (.bipush (-4), 2) := by decide +kernel
theorem dX9_anew_35 : decode cX9_anew 35 = .ok (.ireturn, 1) := by decide +kernel
theorem dX9_anew_36 : decode cX9_anew 36 = .ok (.iconst 0, 1) := by decide +kernel
theorem dX9_anew_37 : decode cX9_anew 37 = .ok (.istore_n 1, 1) := by decide +kernel
theorem dX9_anew_38 : decode cX9_anew 38 = .ok (.iload_n 1, 1) := by decide +kernel
theorem dX9_anew_39 : decode cX9_anew 39 = .ok (.bipush 16, 2) := by decide +kernel
theorem dX9_anew_41 : decode cX9_anew 41 = .ok (.if_icmp .ge 52, 3) := by decide +kernel
theorem dX9_anew_44 : decode cX9_anew 44 = .ok (.aload_n 0, 1) := by decide +kernel
theorem dX9_anew_45 : decode cX9_anew 45 = .ok (.getfield 103, 3) := by decide +kernel
theorem dX9_anew_48 : decode cX9_anew 48 = .ok (.iload_n 1, 1) := by decide +kernel
theorem dX9_anew_49 : decode cX9_anew 49 = .ok (.aload_n 0, 1) := by decide +kernel
theorem dX9_anew_50 : decode cX9_anew 50 = .ok (.getfield 29, 3) := by decide +kernel
theorem dX9_anew_53 : decode cX9_anew 53 = .ok (.iload_n 1, 1) := by decide +kernel
theorem dX9_anew_54 : decode cX9_anew 54 = .ok (.iaload, 1) := by decide +kernel
theorem dX9_anew_55 : decode cX9_anew 55 = .ok (.aload_n 0, 1) := by decide +kernel
theorem dX9_anew_56 : decode cX9_anew 56 = .ok (.getfield 32, 3) := by decide +kernel
theorem dX9_anew_59 : decode cX9_anew 59 = .ok (.iload_n 1, 1) := by decide +kernel
theorem dX9_anew_60 : decode cX9_anew 60 = .ok (.iaload, 1) := by decide +kernel
theorem dX9_anew_61 : decode cX9_anew 61 = .ok (.isub, 1) := by decide +kernel
theorem dX9_anew_62 : decode cX9_anew 62 = .ok (.iastore, 1) := by decide +kernel
theorem dX9_anew_63 : decode cX9_anew 63 = .ok (.aload_n 0, 1) := by decide +kernel
theorem dX9_anew_64 : decode cX9_anew 64 = .ok (.getfield 85, 3) := by decide +kernel
theorem dX9_anew_67 : decode cX9_anew 67 = .ok (.iload_n 1, 1) := by decide +kernel
theorem dX9_anew_68 : decode cX9_anew 68 = .ok (.bipush (-9), 2) := by decide +kernel
theorem dX9_anew_70 : decode cX9_anew 70 = .ok (.iastore, 1) := by decide +kernel
theorem dX9_anew_71 : decode cX9_anew 71 = .ok (.aload_n 0, 1) := by decide +kernel
theorem dX9_anew_72 : decode cX9_anew 72 = .ok (.getfield 88, 3) := by decide +kernel
theorem dX9_anew_75 : decode cX9_anew 75 = .ok (.iload_n 1, 1) := by decide +kernel
theorem dX9_anew_76 : decode cX9_anew 76 = .ok (.bipush (-9), 2) := by decide +kernel
theorem dX9_anew_78 : decode cX9_anew 78 = .ok (.iastore, 1) := by decide +kernel
theorem dX9_anew_79 : decode cX9_anew 79 = .ok (.aload_n 0, 1) := by decide +kernel
theorem dX9_anew_80 : decode cX9_anew 80 = .ok (.getfield 91, 3) := by decide +kernel
theorem dX9_anew_83 : decode cX9_anew 83 = .ok (.iload_n 1, 1) := by decide +kernel
theorem dX9_anew_84 : decode cX9_anew 84 = .ok (.bipush (-9), 2) := by decide +kernel
theorem dX9_anew_86 : decode cX9_anew 86 = .ok (.iastore, 1) := by decide +kernel
theorem dX9_anew_87 : decode cX9_anew 87 = .ok (.iinc 1 1, 3) := by decide +kernel
theorem dX9_anew_90 : decode cX9_anew 90 = .ok (.goto (-52), 3) := by decide +kernel
theorem dX9_anew_93 : decode cX9_anew 93 = .ok (.iconst 0, 1) := by decide +kernel
theorem dX9_anew_94 : decode cX9_anew 94 = .ok (.istore_n 1, 1) := by decide +kernel
theorem dX9_anew_95 : decode cX9_anew 95 = .ok (.iload_n 1, 1) := by decide +kernel
theorem dX9_anew_96 : decode cX9_anew 96 = .ok (.aload_n 0, 1) := by decide +kernel
theorem dX9_anew_97 : decode cX9_anew 97 = .ok (.getfield 126, 3) := by decide +kernel
theorem dX9_anew_100 : decode cX9_anew 100 = .ok (.if_icmp .ge 124, 3) := by decide +kernel
theorem dX9_anew_103 : decode cX9_anew 103 = .ok (.aload_n 0, 1) := by decide +kernel
theorem dX9_anew_104 : decode cX9_anew 104 = .ok (.getfield 41, 3) := by decide +kernel
theorem dX9_anew_107 : decode cX9_anew 107 = .ok (.iload_n 1, 1) := by decide +kernel
theorem dX9_anew_108 : decode cX9_anew 108 = .ok (.iaload, 1) := by decide +kernel
theorem dX9_anew_109 : decode cX9_anew 109 = .ok (.istore_n 2, 1) := by decide +kernel
theorem dX9_anew_110 : decode cX9_anew 110 = .ok (.aload_n 0, 1) := by decide +kernel
theorem dX9_anew_111 : decode cX9_anew 111 = .ok (.getfield 106, 3) := by decide +kernel
theorem dX9_anew_114 : decode cX9_anew 114 = .ok (.iload_n 1, 1) := by decide +kernel
theorem dX9_anew_115 : decode cX9_anew 115 = .ok (.iload_n 2, 1) := by decide +kernel
theorem dX9_anew_116 : decode cX9_anew 116 = .ok (.iastore, 1) := by decide +kernel
theorem dX9_anew_117 : decode cX9_anew 117 = .ok (.aload_n 0, 1) := by decide +kernel
theorem dX9_anew_118 : decode cX9_anew 118 = .ok (.getfield 88, 3) := by decide +kernel
theorem dX9_anew_121 : decode cX9_anew 121 = .ok (.iload_n 2, 1) := by decide +kernel
theorem dX9_anew_122 : decode cX9_anew 122 = .ok (.iload_n 1, 1) := by decide +kernel
theorem dX9_anew_123 : decode cX9_anew 123 = .ok (.iastore, 1) := by decide +kernel
theorem dX9_anew_124 : decode cX9_anew 124 = .ok (.aload_n 0, 1) := by decide +kernel
theorem dX9_anew_125 : decode cX9_anew 125 = .ok (.getfield 85, 3) := by decide +kernel
theorem dX9_anew_128 : decode cX9_anew 128 = .ok (.iload_n 2, 1) := by decide +kernel
theorem dX9_anew_129 : decode cX9_anew 129 = .ok (.aload_n 0, 1) := by decide +kernel
theorem dX9_anew_130 : decode cX9_anew 130 = .ok (.aload_n 0, 1) := by decide +kernel
theorem dX9_anew_131 : decode cX9_anew 131 = .ok (.getfield 103, 3) := by decide +kernel
theorem dX9_anew_134 : decode cX9_anew 134 = .ok (.iload_n 2, 1) := by decide +kernel
theorem dX9_anew_135 : decode cX9_anew 135 = .ok (.iaload, 1) := by decide +kernel
theorem dX9_anew_136 : decode cX9_anew 136 = .ok (.aload_n 0, 1) := by decide +kernel
theorem dX9_anew_137 : decode cX9_anew 137 = .ok (.getfield 207, 3) := by decide +kernel
theorem dX9_anew_140 : decode cX9_anew 140 = .ok (.invokevirtual 210, 3) := by decide +kernel
theorem dX9_anew_143 : decode cX9_anew 143 = .ok (.iastore, 1) := by decide +kernel
theorem dX9_anew_144 : decode cX9_anew 144 = .ok (.aload_n 0, 1) := by decide +kernel
theorem dX9_anew_145 : decode cX9_anew 145 = .ok (.getfield 85, 3) := by decide +kernel
theorem dX9_anew_148 : decode cX9_anew 148 = .ok (.iload_n 2, 1) := by decide +kernel
theorem dX9_anew_149 : decode cX9_anew 149 = .ok (.iaload, 1) := by decide +kernel
theorem dX9_anew_150 : decode cX9_anew 150 = .ok (.bipush (-9), 2) := by decide +kernel
theorem dX9_anew_152 : decode cX9_anew 152 = .ok (.if_icmp .ne 7, 3) := by decide +kernel
theorem dX9_anew_155 : decode cX9_anew 155 = .ok (.iconst 0, 1) := by decide +kernel
theorem dX9_anew_156 : decode cX9_anew 156 = .ok (.goto 14, 3) := by decide +kernel
theorem dX9_anew_159 : decode cX9_anew 159 = .ok (.aload_n 0, 1) := by decide +kernel
theorem dX9_anew_160 : decode cX9_anew 160 = .ok (.getfield 82, 3) := by decide +kernel
theorem dX9_anew_163 : decode cX9_anew 163 = .ok (.aload_n 0, 1) := by decide +kernel
theorem dX9_anew_164 : decode cX9_anew 164 = .ok (.getfield 85, 3) := by decide +kernel
theorem dX9_anew_167 : decode cX9_anew 167 = .ok (.iload_n 2, 1) := by decide +kernel
theorem dX9_anew_168 : decode cX9_anew 168 = .ok (.iaload, 1) := by decide +kernel
theorem dX9_anew_169 : decode cX9_anew 169 = .ok (.iaload, 1) := by decide +kernel
theorem dX9_anew_170 : decode cX9_anew 170 = .ok (.istore_n 3, 1) := by decide +kernel
theorem dX9_anew_171 : decode cX9_anew 171 = .ok (.aload_n 0, 1) := by decide +kernel
theorem dX9_anew_172 : decode cX9_anew 172 = .ok (.getfield 38, 3) := by decide +kernel
theorem dX9_anew_175 : decode cX9_anew 175 = .ok (.iload_n 2, 1) := by decide +kernel
theorem dX9_anew_176 : decode cX9_anew 176 = .ok (.dup2, 1) := by decide +kernel
theorem dX9_anew_177 : decode cX9_anew 177 = .ok (.iaload, 1) := by decide +kernel
theorem dX9_anew_178 : decode cX9_anew 178 = .ok (.aload_n 0, 1) := by decide +kernel
theorem dX9_anew_179 : decode cX9_anew 179 = .ok (.getfield 13, 3) := by decide +kernel
theorem dX9_anew_182 : decode cX9_anew 182 = .ok (.iload_n 2, 1) := by decide +kernel
theorem dX9_anew_183 : decode cX9_anew 183 = .ok (.iaload, 1) := by decide +kernel
theorem dX9_anew_184 : decode cX9_anew 184 = .ok (.iconst 1, 1) := by decide +kernel
theorem dX9_anew_185 : decode cX9_anew 185 = .ok (.if_icmp .ne 12, 3) := by decide +kernel
theorem dX9_anew_188 : decode cX9_anew 188 = .ok (.iload_n 3, 1) := by decide +kernel
theorem dX9_anew_189 : decode cX9_anew 189 = .ok (.iconst (-1), 1) := by decide +kernel
theorem dX9_anew_190 : decode cX9_anew 190 = .ok (.if_icmp .ge 7, 3) := by decide +kernel
theorem dX9_anew_193 : decode cX9_anew 193 = .ok (.iconst 1, 1) := by decide +kernel
theorem dX9_anew_194 : decode cX9_anew 194 = .ok (.goto 22, 3) := by decide +kernel
theorem dX9_anew_197 : decode cX9_anew 197 = .ok (.aload_n 0, 1) := by decide +kernel
theorem dX9_anew_198 : decode cX9_anew 198 = .ok (.getfield 13, 3) := by decide +kernel
theorem dX9_anew_201 : decode cX9_anew 201 = .ok (.iload_n 2, 1) := by decide +kernel
theorem dX9_anew_202 : decode cX9_anew 202 = .ok (.iaload, 1) := by decide +kernel
theorem dX9_anew_203 : decode cX9_anew 203 = .ok (.iconst 2, 1) := by decide +kernel
theorem dX9_anew_204 : decode cX9_anew 204 = .ok (.if_icmp .ne 11, 3) := by decide +kernel
theorem dX9_anew_207 : decode cX9_anew 207 = .ok (.iload_n 3, 1) := by decide +kernel
theorem dX9_anew_208 : decode cX9_anew 208 = .ok (.ifCond .le 7, 3) := by decide +kernel
theorem dX9_anew_211 : decode cX9_anew 211 = .ok (.iload_n 3, 1) := by decide +kernel
theorem dX9_anew_212 : decode cX9_anew 212 = .ok (.goto 4, 3) := by decide +kernel
theorem dX9_anew_215 : decode cX9_anew 215 = .ok (.iconst 0, 1) := by decide +kernel
theorem dX9_anew_216 : decode cX9_anew 216 = .ok (.iadd, 1) := by decide +kernel
theorem dX9_anew_217 : decode cX9_anew 217 = .ok (.iastore, 1) := by decide +kernel
theorem dX9_anew_218 : decode cX9_anew 218 = .ok (.iinc 1 1, 3) := by decide +kernel
theorem dX9_anew_221 : decode cX9_anew 221 = .ok (.goto (-126), 3) := by decide +kernel
theorem dX9_anew_224 : decode cX9_anew 224 = .ok (.aload_n 0, 1) := by decide +kernel
theorem dX9_anew_225 : decode cX9_anew 225 = .ok (.aload_n 0, 1) := by decide +kernel
theorem dX9_anew_226 : decode cX9_anew 226 = .ok (.getfield 106, 3) := by decide +kernel
theorem dX9_anew_229 : decode cX9_anew 229 = .ok (.aload_n 0, 1) := by decide +kernel
theorem dX9_anew_230 : decode cX9_anew 230 = .ok (.getfield 103, 3) := by decide +kernel
theorem dX9_anew_233 : decode cX9_anew 233 = .ok (.aload_n 0, 1) := by decide +kernel
theorem dX9_anew_234 : decode cX9_anew 234 = .ok (.getfield 207, 3) := by decide +kernel
theorem dX9_anew_237 : decode cX9_anew 237 = .ok (.invokevirtual 219, 3) := by decide +kernel
theorem dX9_anew_240 : decode cX9_anew 240 = .ok (.iconst 0, 1) := by decide +kernel
theorem dX9_anew_241 : decode cX9_anew 241 = .ok (.istore_n 1, 1) := by decide +kernel
theorem dX9_anew_242 : decode cX9_anew 242 = .ok (.iconst 0, 1) := by decide +kernel
theorem dX9_anew_243 : decode cX9_anew 243 = .ok (.istore_n 2, 1) := by decide +kernel
theorem dX9_anew_244 : decode cX9_anew 244 = .ok (.iload_n 2, 1) := by decide +kernel
theorem dX9_anew_245 : decode cX9_anew 245 = .ok (.aload_n 0, 1) := by decide +kernel
theorem dX9_anew_246 : decode cX9_anew 246 = .ok (.getfield 126, 3) := by decide +kernel
theorem dX9_anew_249 : decode cX9_anew 249 = .ok (.if_icmp .ge 56, 3) := by decide +kernel
theorem dX9_anew_252 : decode cX9_anew 252 = .ok (.aload_n 0, 1) := by decide +kernel
theorem dX9_anew_253 : decode cX9_anew 253 = .ok (.getfield 41, 3) := by decide +kernel
theorem dX9_anew_256 : decode cX9_anew 256 = .ok (.iload_n 2, 1) := by decide +kernel
theorem dX9_anew_257 : decode cX9_anew 257 = .ok (.aload_n 0, 1) := by decide +kernel
theorem dX9_anew_258 : decode cX9_anew 258 = .ok (.getfield 100, 3) := by decide +kernel
theorem dX9_anew_261 : decode cX9_anew 261 = .ok (.iload_n 2, 1) := by decide +kernel
theorem dX9_anew_262 : decode cX9_anew 262 = .ok (.iaload, 1) := by decide +kernel
theorem dX9_anew_263 : decode cX9_anew 263 = .ok (.iastore, 1) := by decide +kernel
theorem dX9_anew_264 : decode cX9_anew 264 = .ok (.aload_n 0, 1) := by decide +kernel
theorem dX9_anew_265 : decode cX9_anew 265 = .ok (.getfield 91, 3) := by decide +kernel
theorem dX9_anew_268 : decode cX9_anew 268 = .ok (.aload_n 0, 1) := by decide +kernel
theorem dX9_anew_269 : decode cX9_anew 269 = .ok (.getfield 100, 3) := by decide +kernel
theorem dX9_anew_272 : decode cX9_anew 272 = .ok (.iload_n 2, 1) := by decide +kernel
theorem dX9_anew_273 : decode cX9_anew 273 = .ok (.iaload, 1) := by decide +kernel
theorem dX9_anew_274 : decode cX9_anew 274 = .ok (.iload_n 2, 1) := by decide +kernel
theorem dX9_anew_275 : decode cX9_anew 275 = .ok (.iastore, 1) := by decide +kernel
theorem dX9_anew_276 : decode cX9_anew 276 = .ok (.iload_n 1, 1) := by decide +kernel
theorem dX9_anew_277 : decode cX9_anew 277 = .ok (.aload_n 0, 1) := by decide +kernel
theorem dX9_anew_278 : decode cX9_anew 278 = .ok (.getfield 88, 3) := by decide +kernel
theorem dX9_anew_281 : decode cX9_anew 281 = .ok (.aload_n 0, 1) := by decide +kernel
theorem dX9_anew_282 : decode cX9_anew 282 = .ok (.getfield 100, 3) := by decide +kernel
theorem dX9_anew_285 : decode cX9_anew 285 = .ok (.iload_n 2, 1) := by decide +kernel
theorem dX9_anew_286 : decode cX9_anew 286 = .ok (.iaload, 1) := by decide +kernel
theorem dX9_anew_287 : decode cX9_anew 287 = .ok (.iaload, 1) := by decide +kernel
theorem dX9_anew_288 : decode cX9_anew 288 = .ok (.iload_n 2, 1) := by decide +kernel
theorem dX9_anew_289 : decode cX9_anew 289 = .ok (.if_icmp .ne 7, 3) := by decide +kernel
theorem dX9_anew_292 : decode cX9_anew 292 = .ok (.iconst 0, 1) := by decide +kernel
theorem dX9_anew_293 : decode cX9_anew 293 = .ok (.goto 4, 3) := by decide +kernel
theorem dX9_anew_296 : decode cX9_anew 296 = .ok (.iconst 1, 1) := by decide +kernel
theorem dX9_anew_297 : decode cX9_anew 297 = .ok (.iadd, 1) := by decide +kernel
theorem dX9_anew_298 : decode cX9_anew 298 = .ok (.istore_n 1, 1) := by decide +kernel
theorem dX9_anew_299 : decode cX9_anew 299 = .ok (.iinc 2 1, 3) := by decide +kernel
theorem dX9_anew_302 : decode cX9_anew 302 = .ok (.goto (-58), 3) := by decide +kernel
theorem dX9_anew_305 : decode cX9_anew 305 = .ok (.aload_n 0, 1) := by decide +kernel
theorem dX9_anew_306 : decode cX9_anew 306 = .ok (.aload_n 0, 1) := by decide +kernel
theorem dX9_anew_307 : decode cX9_anew 307 = .ok (.getfield 207, 3) := by decide +kernel
theorem dX9_anew_310 : decode cX9_anew 310 = .ok (.putfield 223, 3) := by decide +kernel
theorem dX9_anew_313 : decode cX9_anew 313 = .ok (.aload_n 0, 1) := by decide +kernel
theorem dX9_anew_314 : decode cX9_anew 314 = .ok (.dup, 1) := by decide +kernel
theorem dX9_anew_315 : decode cX9_anew 315 = .ok (.getfield 226, 3) := by decide +kernel
theorem dX9_anew_318 : decode cX9_anew 318 = .ok (.iconst 1, 1) := by decide +kernel
theorem dX9_anew_319 : decode cX9_anew 319 = .ok (.iadd, 1) := by decide +kernel
theorem dX9_anew_320 : decode cX9_anew 320 = .ok (.putfield 226, 3) := by decide +kernel
theorem dX9_anew_323 : decode cX9_anew 323 = .ok (.aload_n 0, 1) := by decide +kernel
theorem dX9_anew_324 : decode cX9_anew 324 = .ok (.iconst 1, 1) := by decide +kernel
theorem dX9_anew_325 : decode cX9_anew 325 = .ok (.putfield 136, 3) := by decide +kernel
theorem dX9_anew_328 : decode cX9_anew 328 = .ok (.aload_n 0, 1) := by decide +kernel
theorem dX9_anew_329 : decode cX9_anew 329 = .ok (.iconst 0, 1) := by decide +kernel
theorem dX9_anew_330 : decode cX9_anew 330 = .ok (.putfield 132, 3) := by decide +kernel
theorem dX9_anew_333 : decode cX9_anew 333 = .ok (.iload_n 1, 1) := by decide +kernel
theorem dX9_anew_334 : decode cX9_anew 334 = .ok (.ireturn, 1) := by decide +kernel
theorem dX9_why_0 : decode cX9_why 0 = .ok (.aload_n 0, 1) := by decide +kernel
theorem dX9_why_1 : decode cX9_why 1 = .ok (.iconst 1, 1) := by decide +kernel
theorem dX9_why_2 : decode cX9_why 2 = .ok (.iload_n 1, 1) := by decide +kernel
theorem dX9_why_3 : decode cX9_why 3 = .ok (.invokevirtual 150, 3) := by decide +kernel
theorem dX9_why_6 : decode cX9_why 6 = .ok (.istore_n 2, 1) := by decide +kernel
theorem dX9_why_7 : decode cX9_why 7 = .ok (.iload_n 2, 1) := by decide +kernel
theorem dX9_why_8 : decode cX9_why 8 = .ok (.ifCond .ge 7, 3) := by decide +kernel
theorem dX9_why_11 : decode cX9_why 11 = .ok (.iload_n 2, 1) := by decide +kernel
theorem dX9_why_12 : decode cX9_why 12 = .ok (.goto 9, 3) := by decide +kernel
theorem dX9_why_15 : decode cX9_why 15 = .ok (.aload_n 0, 1) := by decide +kernel
theorem dX9_why_16 : decode cX9_why 16 = .ok (.getfield 85, 3) := by decide +kernel
theorem dX9_why_19 : decode cX9_why 19 = .ok (.iload_n 1, 1) := by decide +kernel
theorem dX9_why_20 : decode cX9_why 20 = .ok (.iaload, 1) := by decide +kernel
theorem dX9_why_21 : decode cX9_why 21 = .ok (.ireturn, 1) := by decide +kernel
theorem dX9_passed_0 : decode cX9_passed 0 = .ok (.aload_n 0, 1) := by decide +kernel
theorem dX9_passed_1 : decode cX9_passed 1 = .ok (.iload_n 1, 1) := by decide +kernel
theorem dX9_passed_2 : decode cX9_passed 2 = .ok (.invokevirtual 139, 3) := by decide +kernel
theorem dX9_passed_5 : decode cX9_passed 5 = .ok (.ifCond .eq 11, 3) := by decide +kernel
theorem dX9_passed_8 : decode cX9_passed 8 = .ok (.aload_n 0, 1) := by decide +kernel
theorem dX9_passed_9 : decode cX9_passed 9 = .ok (.iload_n 2, 1) := by decide +kernel
theorem dX9_passed_10 : decode cX9_passed 10 = .ok (.invokevirtual 139, 3) := by decide +kernel
theorem dX9_passed_13 : decode cX9_passed 13 = .ok (.ifCond .ne 5, 3) := by decide +kernel
theorem dX9_passed_16 : decode cX9_passed 16 = .ok (.iconst (-1), 1) := by decide +kernel
theorem dX9_passed_17 : decode cX9_passed 17 = .ok (.ireturn, 1) := by decide +kernel
theorem dX9_passed_18 : decode cX9_passed 18 = .ok (.aload_n 0, 1) := by decide +kernel
theorem dX9_passed_19 : decode cX9_passed 19 = .ok (.getfield 22, 3) := by decide +kernel
theorem dX9_passed_22 : decode cX9_passed 22 = .ok (.iload_n 1, 1) := by decide +kernel
theorem dX9_passed_23 : decode cX9_passed 23 = .ok (.baload, 1) := by decide +kernel
theorem dX9_passed_24 : decode cX9_passed 24 = .ok (.ifCond .ne 12, 3) := by decide +kernel
theorem dX9_passed_27 : decode cX9_passed 27 = .ok (.aload_n 0, 1) := by decide +kernel
theorem dX9_passed_28 : decode cX9_passed 28 = .ok (.getfield 22, 3) := by decide +kernel
theorem dX9_passed_31 : decode cX9_passed 31 = .ok (.iload_n 2, 1) := by decide +kernel
theorem dX9_passed_32 : decode cX9_passed 32 = .ok (.baload, 1) := by decide +kernel
theorem dX9_passed_33 : decode cX9_passed 33 = .ok (.ifCond .eq 9, 3) := by decide +kernel
theorem dX9_passed_36 : decode cX9_passed 36 = .ok (.aload_n 0, 1) := by decide +kernel
theorem dX9_passed_37 : decode cX9_passed 37 = .ok (.iconst 1, 1) := by decide +kernel
theorem dX9_passed_38 : decode cX9_passed 38 = .ok (.invokevirtual 143, 3) := by decide +kernel
theorem dX9_passed_41 : decode cX9_passed 41 = .ok (.ireturn, 1) := by decide +kernel
theorem dX9_passed_42 : decode cX9_passed 42 = .ok (.aload_n 0, 1) := by decide +kernel
theorem dX9_passed_43 : decode cX9_passed 43 = .ok (.getfield 88, 3) := by decide +kernel
theorem dX9_passed_46 : decode cX9_passed 46 = .ok (.iload_n 1, 1) := by decide +kernel
theorem dX9_passed_47 : decode cX9_passed 47 = .ok (.iaload, 1) := by decide +kernel
theorem dX9_passed_48 : decode cX9_passed 48 = .ok (.bipush (-9), 2) := by decide +kernel
theorem dX9_passed_50 : decode cX9_passed 50 = .ok (.if_icmp .eq 18, 3) := by decide +kernel
theorem dX9_passed_53 : decode cX9_passed 53 = .ok (.aload_n 0, 1) := by decide +kernel
theorem dX9_passed_54 : decode cX9_passed 54 = .ok (.getfield 88, 3) := by decide +kernel
theorem dX9_passed_57 : decode cX9_passed 57 = .ok (.iload_n 2, 1) := by decide +kernel
theorem dX9_passed_58 : decode cX9_passed 58 = .ok (.iaload, 1) := by decide +kernel
theorem dX9_passed_59 : decode cX9_passed 59 = .ok (.bipush (-9), 2) := by decide +kernel
theorem dX9_passed_61 : decode cX9_passed 61 = .ok (.if_icmp .eq 7, 3) := by decide +kernel
theorem dX9_passed_64 : decode cX9_passed 64 = .ok (.iconst 1, 1) := by decide +kernel
theorem dX9_passed_65 : decode cX9_passed 65 = .ok (.goto 4, 3) := by decide +kernel
theorem dX9_passed_68 : decode cX9_passed 68 = .ok (.iconst 0, 1) := by decide +kernel
theorem dX9_passed_69 : decode cX9_passed 69 = .ok (.istore_n 3, 1) := by decide +kernel
theorem dX9_passed_70 : decode cX9_passed 70 = .ok (.iload_n 3, 1) := by decide +kernel
theorem dX9_passed_71 : decode cX9_passed 71 = .ok (.ifCond .eq 37, 3) := by decide +kernel
theorem dX9_passed_74 : decode cX9_passed 74 = .ok (.aload_n 0, 1) := by decide +kernel
theorem dX9_passed_75 : decode cX9_passed 75 = .ok (.getfield 88, 3) := by decide +kernel
theorem dX9_passed_78 : decode cX9_passed 78 = .ok (.iload_n 1, 1) := by decide +kernel
theorem dX9_passed_79 : decode cX9_passed 79 = .ok (.iaload, 1) := by decide +kernel
theorem dX9_passed_80 : decode cX9_passed 80 = .ok (.aload_n 0, 1) := by decide +kernel
theorem dX9_passed_81 : decode cX9_passed 81 = .ok (.getfield 88, 3) := by decide +kernel
theorem dX9_passed_84 : decode cX9_passed 84 = .ok (.iload_n 2, 1) := by decide +kernel
theorem dX9_passed_85 : decode cX9_passed 85 = .ok (.iaload, 1) := by decide +kernel
theorem dX9_passed_86 : decode cX9_passed 86 = .ok (.if_icmp .le 22, 3) := by decide +kernel
theorem dX9_passed_89 : decode cX9_passed 89 = .ok (.aload_n 0, 1) := by decide +kernel
theorem dX9_passed_90 : decode cX9_passed 90 = .ok (.getfield 91, 3) := by decide +kernel
theorem dX9_passed_93 : decode cX9_passed 93 = .ok (.iload_n 1, 1) := by decide +kernel
theorem dX9_passed_94 : decode cX9_passed 94 = .ok (.iaload, 1) := by decide +kernel
theorem dX9_passed_95 : decode cX9_passed 95 = .ok (.aload_n 0, 1) := by decide +kernel
theorem dX9_passed_96 : decode cX9_passed 96 = .ok (.getfield 91, 3) := by decide +kernel
theorem dX9_passed_99 : decode cX9_passed 99 = .ok (.iload_n 2, 1) := by decide +kernel
theorem dX9_passed_100 : decode cX9_passed 100 = .ok (.iaload, 1) := by decide +kernel
theorem dX9_passed_101 : decode cX9_passed 101 = .ok (.if_icmp .ge 7, 3) := by decide +kernel
theorem dX9_passed_104 : decode cX9_passed 104 = .ok (.iconst 1, 1) := by decide +kernel
theorem dX9_passed_105 : decode cX9_passed 105 = .ok (.goto 4, 3) := by decide +kernel
theorem dX9_passed_108 : decode cX9_passed 108 = .ok (.iconst 0, 1) := by decide +kernel
theorem dX9_passed_109 : decode cX9_passed 109 = .ok (.ireturn, 1) := by decide +kernel
theorem dX9_beside_0 : decode cX9_beside 0 = .ok (.iload_n 1, 1) := by decide +kernel
theorem dX9_beside_1 : decode cX9_beside 1 = .ok (.iconst 0, 1) := by decide +kernel
theorem dX9_beside_2 : decode cX9_beside 2 = .ok (.aload_n 0, 1) := by decide +kernel
theorem dX9_beside_3 : decode cX9_beside 3 = .ok (.getfield 170, 3) := by decide +kernel
theorem dX9_beside_6 : decode cX9_beside 6 = .ok (.iconst 1, 1) := by decide +kernel
theorem dX9_beside_7 : decode cX9_beside 7 = .ok (.isub, 1) := by decide +kernel
theorem dX9_beside_8 : decode cX9_beside 8 = .ok (.invokestatic 122, 3) := by decide +kernel
theorem dX9_beside_11 : decode cX9_beside 11 = .ok (.ifCond .ne 5, 3) := by decide +kernel
theorem dX9_beside_14 : decode cX9_beside 14 = .ok (.iconst (-1), 1) := by decide +kernel
theorem dX9_beside_15 : decode cX9_beside 15 = .ok (.ireturn, 1) := by decide +kernel
theorem dX9_beside_16 : decode cX9_beside 16 = .ok (.aload_n 0, 1) := by decide +kernel
theorem dX9_beside_17 : decode cX9_beside 17 = .ok (.getfield 136, 3) := by decide +kernel
theorem dX9_beside_20 : decode cX9_beside 20 = .ok (.ifCond .ne 6, 3) := by decide +kernel
theorem dX9_beside_23 : decode cX9_beside 23 = .ok (.bipush (-4), 2) := by decide +kernel
theorem dX9_beside_25 : decode cX9_beside 25 = .ok (.ireturn, 1) := by decide +kernel
theorem dX9_beside_26 : decode cX9_beside 26 = .ok (.iconst 0, 1) := by decide +kernel
theorem dX9_beside_27 : decode cX9_beside 27 = .ok (.istore_n 2, 1) := by decide +kernel
theorem dX9_beside_28 : decode cX9_beside 28 = .ok (.iload_n 2, 1) := by decide +kernel
theorem dX9_beside_29 : decode cX9_beside 29 = .ok (.bipush 16, 2) := by decide +kernel
theorem dX9_beside_31 : decode cX9_beside 31 = .ok (.if_icmp .ge 86, 3) := by decide +kernel
theorem dX9_beside_34 : decode cX9_beside 34 = .ok (.iload_n 2, 1) := by decide +kernel
theorem dX9_beside_35 : decode cX9_beside 35 = .ok (.aload_n 0, 1) := by decide +kernel
theorem dX9_beside_36 : decode cX9_beside 36 = .ok (.getfield 57, 3) := by decide +kernel
theorem dX9_beside_39 : decode cX9_beside 39 = .ok (.iload_n 1, 1) := by decide +kernel
theorem dX9_beside_40 : decode cX9_beside 40 = .ok (.iaload, 1) := by decide +kernel
theorem dX9_beside_41 : decode cX9_beside 41 = .ok (.if_icmp .eq 13, 3) := by decide +kernel
theorem dX9_beside_44 : decode cX9_beside 44 = .ok (.iload_n 2, 1) := by decide +kernel
theorem dX9_beside_45 : decode cX9_beside 45 = .ok (.aload_n 0, 1) := by decide +kernel
theorem dX9_beside_46 : decode cX9_beside 46 = .ok (.getfield 60, 3) := by decide +kernel
theorem dX9_beside_49 : decode cX9_beside 49 = .ok (.iload_n 1, 1) := by decide +kernel
theorem dX9_beside_50 : decode cX9_beside 50 = .ok (.iaload, 1) := by decide +kernel
theorem dX9_beside_51 : decode cX9_beside 51 = .ok (.if_icmp .ne 7, 3) := by decide +kernel
theorem dX9_beside_54 : decode cX9_beside 54 = .ok (.iconst 1, 1) := by decide +kernel
theorem dX9_beside_55 : decode cX9_beside 55 = .ok (.goto 4, 3) := by decide +kernel
theorem dX9_beside_58 : decode cX9_beside 58 = .ok (.iconst 0, 1) := by decide +kernel
theorem dX9_beside_59 : decode cX9_beside 59 = .ok (.istore_n 3, 1) := by decide +kernel
theorem dX9_beside_60 : decode cX9_beside 60 = .ok (.aload_n 0, 1) := by decide +kernel
theorem dX9_beside_61 : decode cX9_beside 61 = .ok (.getfield 103, 3) := by decide +kernel
theorem dX9_beside_64 : decode cX9_beside 64 = .ok (.iload_n 2, 1) := by decide +kernel
theorem dX9_beside_65 : decode cX9_beside 65 = .ok (.aload_n 0, 1) := by decide +kernel
theorem dX9_beside_66 : decode cX9_beside 66 = .ok (.getfield 29, 3) := by decide +kernel
theorem dX9_beside_69 : decode cX9_beside 69 = .ok (.iload_n 2, 1) := by decide +kernel
theorem dX9_beside_70 : decode cX9_beside 70 = .ok (.iaload, 1) := by decide +kernel
theorem dX9_beside_71 : decode cX9_beside 71 = .ok (.aload_n 0, 1) := by decide +kernel
theorem dX9_beside_72 : decode cX9_beside 72 = .ok (.getfield 32, 3) := by decide +kernel
theorem dX9_beside_75 : decode cX9_beside 75 = .ok (.iload_n 2, 1) := by decide +kernel
theorem dX9_beside_76 : decode cX9_beside 76 = .ok (.iaload, 1) := by decide +kernel
theorem dX9_beside_77 : decode cX9_beside 77 = .ok (.isub, 1) := by decide +kernel
theorem dX9_beside_78 : decode cX9_beside 78 = .ok (.iload_n 3, 1) := by decide +kernel
theorem dX9_beside_79 : decode cX9_beside 79 = .ok (.ifCond .eq 21, 3) := by decide +kernel
theorem dX9_beside_82 : decode cX9_beside 82 = .ok (.iload_n 2, 1) := by decide +kernel
theorem dX9_beside_83 : decode cX9_beside 83 = .ok (.aload_n 0, 1) := by decide +kernel
theorem dX9_beside_84 : decode cX9_beside 84 = .ok (.getfield 63, 3) := by decide +kernel
theorem dX9_beside_87 : decode cX9_beside 87 = .ok (.iload_n 1, 1) := by decide +kernel
theorem dX9_beside_88 : decode cX9_beside 88 = .ok (.iaload, 1) := by decide +kernel
