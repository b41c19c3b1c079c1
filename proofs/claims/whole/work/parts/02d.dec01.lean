theorem d_bk_toldNotes_0 : decode prog_2_method_5_code 0 = .ok (.iconst 0, 1) := by decide +kernel
theorem d_bk_toldNotes_1 : decode prog_2_method_5_code 1 = .ok (.istore_n 1, 1) := by decide +kernel
theorem d_bk_toldNotes_2 : decode prog_2_method_5_code 2 = .ok (.iconst 0, 1) := by decide +kernel
theorem d_bk_toldNotes_3 : decode prog_2_method_5_code 3 = .ok (.istore_n 2, 1) := by decide +kernel
theorem d_bk_toldNotes_4 : decode prog_2_method_5_code 4 = .ok (.iload_n 2, 1) := by decide +kernel
theorem d_bk_toldNotes_5 : decode prog_2_method_5_code 5 = .ok (.aload_n 0, 1) := by decide +kernel
theorem d_bk_toldNotes_6 : decode prog_2_method_5_code 6 = .ok (.getfield 60, 3) := by decide +kernel
theorem d_bk_toldNotes_9 : decode prog_2_method_5_code 9 = .ok (.if_icmp .ge 21, 3) := by decide +kernel
theorem d_bk_toldNotes_12 : decode prog_2_method_5_code 12 = .ok (.iload_n 1, 1) := by decide +kernel
theorem d_bk_toldNotes_13 : decode prog_2_method_5_code 13 = .ok (.aload_n 0, 1) := by decide +kernel
theorem d_bk_toldNotes_14 : decode prog_2_method_5_code 14 = .ok (.getfield 19, 3) := by decide +kernel
theorem d_bk_toldNotes_17 : decode prog_2_method_5_code 17 = .ok (.iload_n 2, 1) := by decide +kernel
theorem d_bk_toldNotes_18 : decode prog_2_method_5_code 18 = .ok (.aaload, 1) := by decide +kernel
theorem d_bk_toldNotes_19 : decode prog_2_method_5_code 19 = .ok (.getfield 41, 3) := by decide +kernel
theorem d_bk_toldNotes_22 : decode prog_2_method_5_code 22 = .ok (.iadd, 1) := by decide +kernel
theorem d_bk_toldNotes_23 : decode prog_2_method_5_code 23 = .ok (.istore_n 1, 1) := by decide +kernel
theorem d_bk_toldNotes_24 : decode prog_2_method_5_code 24 = .ok (.iinc 2 1, 3) := by decide +kernel
theorem d_bk_toldNotes_27 : decode prog_2_method_5_code 27 = .ok (.goto (-23), 3) := by decide +kernel
theorem d_bk_toldNotes_30 : decode prog_2_method_5_code 30 = .ok (.iload_n 1, 1) := by decide +kernel
theorem d_bk_toldNotes_31 : decode prog_2_method_5_code 31 = .ok (.ireturn, 1) := by decide +kernel
theorem d_bk_countingLoans_0 : decode prog_2_method_6_code 0 = .ok (.iconst 0, 1) := by decide +kernel
theorem d_bk_countingLoans_1 : decode prog_2_method_6_code 1 = .ok (.istore_n 1, 1) := by decide +kernel
theorem d_bk_countingLoans_2 : decode prog_2_method_6_code 2 = .ok (.iconst 0, 1) := by decide +kernel
theorem d_bk_countingLoans_3 : decode prog_2_method_6_code 3 = .ok (.istore_n 2, 1) := by decide +kernel
theorem d_bk_countingLoans_4 : decode prog_2_method_6_code 4 = .ok (.iload_n 2, 1) := by decide +kernel
theorem d_bk_countingLoans_5 : decode prog_2_method_6_code 5 = .ok (.aload_n 0, 1) := by decide +kernel
theorem d_bk_countingLoans_6 : decode prog_2_method_6_code 6 = .ok (.getfield 86, 3) := by decide +kernel
theorem d_bk_countingLoans_9 : decode prog_2_method_6_code 9 = .ok (.if_icmp .ge 29, 3) := by decide +kernel
theorem d_bk_countingLoans_12 : decode prog_2_method_6_code 12 = .ok (.iload_n 1, 1) := by decide +kernel
theorem d_bk_countingLoans_13 : decode prog_2_method_6_code 13 = .ok (.aload_n 0, 1) := by decide +kernel
theorem d_bk_countingLoans_14 : decode prog_2_method_6_code 14 = .ok (.getfield 31, 3) := by decide +kernel
theorem d_bk_countingLoans_17 : decode prog_2_method_6_code 17 = .ok (.iload_n 2, 1) := by decide +kernel
theorem d_bk_countingLoans_18 : decode prog_2_method_6_code 18 = .ok (.aaload, 1) := by decide +kernel
theorem d_bk_countingLoans_19 : decode prog_2_method_6_code 19 = .ok (.getfield 89, 3) := by decide +kernel
theorem d_bk_countingLoans_22 : decode prog_2_method_6_code 22 = .ok (.ifCond .eq 7, 3) := by decide +kernel
theorem d_bk_countingLoans_25 : decode prog_2_method_6_code 25 = .ok (.iconst 1, 1) := by decide +kernel
theorem d_bk_countingLoans_26 : decode prog_2_method_6_code 26 = .ok (.goto 4, 3) := by decide +kernel
theorem d_bk_countingLoans_29 : decode prog_2_method_6_code 29 = .ok (.iconst 0, 1) := by decide +kernel
theorem d_bk_countingLoans_30 : decode prog_2_method_6_code 30 = .ok (.iadd, 1) := by decide +kernel
theorem d_bk_countingLoans_31 : decode prog_2_method_6_code 31 = .ok (.istore_n 1, 1) := by decide +kernel
theorem d_bk_countingLoans_32 : decode prog_2_method_6_code 32 = .ok (.iinc 2 1, 3) := by decide +kernel
theorem d_bk_countingLoans_35 : decode prog_2_method_6_code 35 = .ok (.goto (-31), 3) := by decide +kernel
theorem d_bk_countingLoans_38 : decode prog_2_method_6_code 38 = .ok (.iload_n 1, 1) := by decide +kernel
theorem d_bk_countingLoans_39 : decode prog_2_method_6_code 39 = .ok (.ireturn, 1) := by decide +kernel
theorem d_ch_weigh_0 : decode prog_4_method_2_code 0 = .ok (.iconst 0, 1) := by decide +kernel
theorem d_ch_weigh_1 : decode prog_4_method_2_code 1 = .ok (.istore_n 3, 1) := by decide +kernel
theorem d_ch_weigh_2 : decode prog_4_method_2_code 2 = .ok (.iload_n 3, 1) := by decide +kernel
theorem d_ch_weigh_3 : decode prog_4_method_2_code 3 = .ok (.bipush 9, 2) := by decide +kernel
theorem d_ch_weigh_5 : decode prog_4_method_2_code 5 = .ok (.if_icmp .gt 24, 3) := by decide +kernel
theorem d_ch_weigh_8 : decode prog_4_method_2_code 8 = .ok (.aload_n 0, 1) := by decide +kernel
theorem d_ch_weigh_9 : decode prog_4_method_2_code 9 = .ok (.getfield 21, 3) := by decide +kernel
theorem d_ch_weigh_12 : decode prog_4_method_2_code 12 = .ok (.iload_n 3, 1) := by decide +kernel
theorem d_ch_weigh_13 : decode prog_4_method_2_code 13 = .ok (.iload_n 3, 1) := by decide +kernel
theorem d_ch_weigh_14 : decode prog_4_method_2_code 14 = .ok (.ifCond .ne 7, 3) := by decide +kernel
theorem d_ch_weigh_17 : decode prog_4_method_2_code 17 = .ok (.lconst 1, 1) := by decide +kernel
theorem d_ch_weigh_18 : decode prog_4_method_2_code 18 = .ok (.goto 4, 3) := by decide +kernel
theorem d_ch_weigh_21 : decode prog_4_method_2_code 21 = .ok (.lconst 0, 1) := by decide +kernel
theorem d_ch_weigh_22 : decode prog_4_method_2_code 22 = .ok (.lastore, 1) := by decide +kernel
theorem d_ch_weigh_23 : decode prog_4_method_2_code 23 = .ok (.iinc 3 1, 3) := by decide +kernel
theorem d_ch_weigh_26 : decode prog_4_method_2_code 26 = .ok (.goto (-24), 3) := by decide +kernel
theorem d_ch_weigh_29 : decode prog_4_method_2_code 29 = .ok (.iconst 0, 1) := by decide +kernel
theorem d_ch_weigh_30 : decode prog_4_method_2_code 30 = .ok (.istore_n 3, 1) := by decide +kernel
theorem d_ch_weigh_31 : decode prog_4_method_2_code 31 = .ok (.iload_n 3, 1) := by decide +kernel
theorem d_ch_weigh_32 : decode prog_4_method_2_code 32 = .ok (.iload_n 2, 1) := by decide +kernel
theorem d_ch_weigh_33 : decode prog_4_method_2_code 33 = .ok (.if_icmp .ge 71, 3) := by decide +kernel
theorem d_ch_weigh_36 : decode prog_4_method_2_code 36 = .ok (.bipush 9, 2) := by decide +kernel
theorem d_ch_weigh_38 : decode prog_4_method_2_code 38 = .ok (.istore 4, 2) := by decide +kernel
theorem d_ch_weigh_40 : decode prog_4_method_2_code 40 = .ok (.iload 4, 2) := by decide +kernel
theorem d_ch_weigh_42 : decode prog_4_method_2_code 42 = .ok (.ifCond .le 42, 3) := by decide +kernel
theorem d_ch_weigh_45 : decode prog_4_method_2_code 45 = .ok (.aload_n 0, 1) := by decide +kernel
theorem d_ch_weigh_46 : decode prog_4_method_2_code 46 = .ok (.getfield 21, 3) := by decide +kernel
theorem d_ch_weigh_49 : decode prog_4_method_2_code 49 = .ok (.iload 4, 2) := by decide +kernel
theorem d_ch_weigh_51 : decode prog_4_method_2_code 51 = .ok (.aload_n 0, 1) := by decide +kernel
theorem d_ch_weigh_52 : decode prog_4_method_2_code 52 = .ok (.getfield 21, 3) := by decide +kernel
theorem d_ch_weigh_55 : decode prog_4_method_2_code 55 = .ok (.iload 4, 2) := by decide +kernel
theorem d_ch_weigh_57 : decode prog_4_method_2_code 57 = .ok (.laload, 1) := by decide +kernel
theorem d_ch_weigh_58 : decode prog_4_method_2_code 58 = .ok (.bipush 16, 2) := by decide +kernel
theorem d_ch_weigh_60 : decode prog_4_method_2_code 60 = .ok (.iload_n 1, 1) := by decide +kernel
theorem d_ch_weigh_61 : decode prog_4_method_2_code 61 = .ok (.isub, 1) := by decide +kernel
theorem d_ch_weigh_62 : decode prog_4_method_2_code 62 = .ok (.i2l, 1) := by decide +kernel
theorem d_ch_weigh_63 : decode prog_4_method_2_code 63 = .ok (.lmul, 1) := by decide +kernel
theorem d_ch_weigh_64 : decode prog_4_method_2_code 64 = .ok (.aload_n 0, 1) := by decide +kernel
theorem d_ch_weigh_65 : decode prog_4_method_2_code 65 = .ok (.getfield 21, 3) := by decide +kernel
theorem d_ch_weigh_68 : decode prog_4_method_2_code 68 = .ok (.iload 4, 2) := by decide +kernel
theorem d_ch_weigh_70 : decode prog_4_method_2_code 70 = .ok (.iconst 1, 1) := by decide +kernel
theorem d_ch_weigh_71 : decode prog_4_method_2_code 71 = .ok (.isub, 1) := by decide +kernel
theorem d_ch_weigh_72 : decode prog_4_method_2_code 72 = .ok (.laload, 1) := by decide +kernel
theorem d_ch_weigh_73 : decode prog_4_method_2_code 73 = .ok (.iload_n 1, 1) := by decide +kernel
theorem d_ch_weigh_74 : decode prog_4_method_2_code 74 = .ok (.i2l, 1) := by decide +kernel
theorem d_ch_weigh_75 : decode prog_4_method_2_code 75 = .ok (.lmul, 1) := by decide +kernel
theorem d_ch_weigh_76 : decode prog_4_method_2_code 76 = .ok (.ladd, 1) := by decide +kernel
theorem d_ch_weigh_77 : decode prog_4_method_2_code 77 = .ok (.lastore, 1) := by decide +kernel
theorem d_ch_weigh_78 : decode prog_4_method_2_code 78 = .ok (.iinc 4 (-1), 3) := by decide +kernel
theorem d_ch_weigh_81 : decode prog_4_method_2_code 81 = .ok (.goto (-41), 3) := by decide +kernel
theorem d_ch_weigh_84 : decode prog_4_method_2_code 84 = .ok (.aload_n 0, 1) := by decide +kernel
theorem d_ch_weigh_85 : decode prog_4_method_2_code 85 = .ok (.getfield 21, 3) := by decide +kernel
theorem d_ch_weigh_88 : decode prog_4_method_2_code 88 = .ok (.iconst 0, 1) := by decide +kernel
theorem d_ch_weigh_89 : decode prog_4_method_2_code 89 = .ok (.dup2, 1) := by decide +kernel
theorem d_ch_weigh_90 : decode prog_4_method_2_code 90 = .ok (.laload, 1) := by decide +kernel
theorem d_ch_weigh_91 : decode prog_4_method_2_code 91 = .ok (.bipush 16, 2) := by decide +kernel
theorem d_ch_weigh_93 : decode prog_4_method_2_code 93 = .ok (.iload_n 1, 1) := by decide +kernel
theorem d_ch_weigh_94 : decode prog_4_method_2_code 94 = .ok (.isub, 1) := by decide +kernel
theorem d_ch_weigh_95 : decode prog_4_method_2_code 95 = .ok (.i2l, 1) := by decide +kernel
theorem d_ch_weigh_96 : decode prog_4_method_2_code 96 = .ok (.lmul, 1) := by decide +kernel
theorem d_ch_weigh_97 : decode prog_4_method_2_code 97 = .ok (.lastore, 1) := by decide +kernel
theorem d_ch_weigh_98 : decode prog_4_method_2_code 98 = .ok (.iinc 3 1, 3) := by decide +kernel
theorem d_ch_weigh_101 : decode prog_4_method_2_code 101 = .ok (.goto (-70), 3) := by decide +kernel
theorem d_ch_weigh_104 : decode prog_4_method_2_code 104 = .ok (.return_, 1) := by decide +kernel
theorem d_ch_weightOf_0 : decode prog_4_method_3_code 0 = .ok (.aload_n 0, 1) := by decide +kernel
theorem d_ch_weightOf_1 : decode prog_4_method_3_code 1 = .ok (.getfield 12, 3) := by decide +kernel
theorem d_ch_weightOf_4 : decode prog_4_method_3_code 4 = .ok (.aload_n 1, 1) := by decide +kernel
theorem d_ch_weightOf_5 : decode prog_4_method_3_code 5 = .ok (.invokevirtual 25, 3) := by decide +kernel
theorem d_ch_weightOf_8 : decode prog_4_method_3_code 8 = .ok (.lconst 0, 1) := by decide +kernel
theorem d_ch_weightOf_9 : decode prog_4_method_3_code 9 = .ok (.lstore 5, 2) := by decide +kernel
theorem d_ch_weightOf_11 : decode prog_4_method_3_code 11 = .ok (.iconst 0, 1) := by decide +kernel
theorem d_ch_weightOf_12 : decode prog_4_method_3_code 12 = .ok (.istore 7, 2) := by decide +kernel
theorem d_ch_weightOf_14 : decode prog_4_method_3_code 14 = .ok (.iload 7, 2) := by decide +kernel
theorem d_ch_weightOf_16 : decode prog_4_method_3_code 16 = .ok (.iload_n 3, 1) := by decide +kernel
theorem d_ch_weightOf_17 : decode prog_4_method_3_code 17 = .ok (.if_icmp .gt 45, 3) := by decide +kernel
theorem d_ch_weightOf_20 : decode prog_4_method_3_code 20 = .ok (.iload 7, 2) := by decide +kernel
theorem d_ch_weightOf_22 : decode prog_4_method_3_code 22 = .ok (.bipush 9, 2) := by decide +kernel
theorem d_ch_weightOf_24 : decode prog_4_method_3_code 24 = .ok (.if_icmp .gt 38, 3) := by decide +kernel
theorem d_ch_weightOf_27 : decode prog_4_method_3_code 27 = .ok (.aload_n 0, 1) := by decide +kernel
theorem d_ch_weightOf_28 : decode prog_4_method_3_code 28 = .ok (.getfield 12, 3) := by decide +kernel
theorem d_ch_weightOf_31 : decode prog_4_method_3_code 31 = .ok (.getfield 29, 3) := by decide +kernel
theorem d_ch_weightOf_34 : decode prog_4_method_3_code 34 = .ok (.iload 4, 2) := by decide +kernel
theorem d_ch_weightOf_36 : decode prog_4_method_3_code 36 = .ok (.if_icmp .lt 15, 3) := by decide +kernel
theorem d_ch_weightOf_39 : decode prog_4_method_3_code 39 = .ok (.lload 5, 2) := by decide +kernel
theorem d_ch_weightOf_41 : decode prog_4_method_3_code 41 = .ok (.aload_n 0, 1) := by decide +kernel
theorem d_ch_weightOf_42 : decode prog_4_method_3_code 42 = .ok (.getfield 21, 3) := by decide +kernel
theorem d_ch_weightOf_45 : decode prog_4_method_3_code 45 = .ok (.iload 7, 2) := by decide +kernel
theorem d_ch_weightOf_47 : decode prog_4_method_3_code 47 = .ok (.laload, 1) := by decide +kernel
theorem d_ch_weightOf_48 : decode prog_4_method_3_code 48 = .ok (.ladd, 1) := by decide +kernel
theorem d_ch_weightOf_49 : decode prog_4_method_3_code 49 = .ok (.lstore 5, 2) := by decide +kernel
theorem d_ch_weightOf_51 : decode prog_4_method_3_code 51 = .ok (.aload_n 0, 1) := by decide +kernel
theorem d_ch_weightOf_52 : decode prog_4_method_3_code 52 = .ok (.aload_n 2, 1) := by decide +kernel
theorem d_ch_weightOf_53 : decode prog_4_method_3_code 53 = .ok (.invokevirtual 33, 3) := by decide +kernel
theorem d_ch_weightOf_56 : decode prog_4_method_3_code 56 = .ok (.iinc 7 1, 3) := by decide +kernel
theorem d_ch_weightOf_59 : decode prog_4_method_3_code 59 = .ok (.goto (-45), 3) := by decide +kernel
theorem d_ch_weightOf_62 : decode prog_4_method_3_code 62 = .ok (.lload 5, 2) := by decide +kernel
theorem d_ch_weightOf_64 : decode prog_4_method_3_code 64 = .ok (.lreturn, 1) := by decide +kernel
theorem d_ch_fairSize_0 : decode prog_4_method_4_code 0 = .ok (.aload_n 0, 1) := by decide +kernel
theorem d_ch_fairSize_1 : decode prog_4_method_4_code 1 = .ok (.iload_n 2, 1) := by decide +kernel
theorem d_ch_fairSize_2 : decode prog_4_method_4_code 2 = .ok (.putfield 37, 3) := by decide +kernel
theorem d_ch_fairSize_5 : decode prog_4_method_4_code 5 = .ok (.aload_n 0, 1) := by decide +kernel
theorem d_ch_fairSize_6 : decode prog_4_method_4_code 6 = .ok (.getfield 12, 3) := by decide +kernel
theorem d_ch_fairSize_9 : decode prog_4_method_4_code 9 = .ok (.aload_n 1, 1) := by decide +kernel
theorem d_ch_fairSize_10 : decode prog_4_method_4_code 10 = .ok (.getfield 40, 3) := by decide +kernel
theorem d_ch_fairSize_13 : decode prog_4_method_4_code 13 = .ok (.iload 4, 2) := by decide +kernel
theorem d_ch_fairSize_15 : decode prog_4_method_4_code 15 = .ok (.aaload, 1) := by decide +kernel
theorem d_ch_fairSize_16 : decode prog_4_method_4_code 16 = .ok (.invokevirtual 25, 3) := by decide +kernel
theorem d_ch_fairSize_19 : decode prog_4_method_4_code 19 = .ok (.iconst 0, 1) := by decide +kernel
theorem d_ch_fairSize_20 : decode prog_4_method_4_code 20 = .ok (.istore 5, 2) := by decide +kernel
theorem d_ch_fairSize_22 : decode prog_4_method_4_code 22 = .ok (.iload 5, 2) := by decide +kernel
theorem d_ch_fairSize_24 : decode prog_4_method_4_code 24 = .ok (.iload_n 3, 1) := by decide +kernel
theorem d_ch_fairSize_25 : decode prog_4_method_4_code 25 = .ok (.if_icmp .ge 54, 3) := by decide +kernel
theorem d_ch_fairSize_28 : decode prog_4_method_4_code 28 = .ok (.aload_n 1, 1) := by decide +kernel
theorem d_ch_fairSize_29 : decode prog_4_method_4_code 29 = .ok (.getfield 46, 3) := by decide +kernel
theorem d_ch_fairSize_32 : decode prog_4_method_4_code 32 = .ok (.ifCond .le 47, 3) := by decide +kernel
theorem d_ch_fairSize_35 : decode prog_4_method_4_code 35 = .ok (.aload_n 0, 1) := by decide +kernel
theorem d_ch_fairSize_36 : decode prog_4_method_4_code 36 = .ok (.aload_n 1, 1) := by decide +kernel
theorem d_ch_fairSize_37 : decode prog_4_method_4_code 37 = .ok (.getfield 49, 3) := by decide +kernel
theorem d_ch_fairSize_40 : decode prog_4_method_4_code 40 = .ok (.invokevirtual 52, 3) := by decide +kernel
theorem d_ch_fairSize_43 : decode prog_4_method_4_code 43 = .ok (.istore 6, 2) := by decide +kernel
theorem d_ch_fairSize_45 : decode prog_4_method_4_code 45 = .ok (.aload_n 0, 1) := by decide +kernel
theorem d_ch_fairSize_46 : decode prog_4_method_4_code 46 = .ok (.aload_n 1, 1) := by decide +kernel
theorem d_ch_fairSize_47 : decode prog_4_method_4_code 47 = .ok (.getfield 46, 3) := by decide +kernel
theorem d_ch_fairSize_50 : decode prog_4_method_4_code 50 = .ok (.invokevirtual 52, 3) := by decide +kernel
theorem d_ch_fairSize_53 : decode prog_4_method_4_code 53 = .ok (.istore 7, 2) := by decide +kernel
theorem d_ch_fairSize_55 : decode prog_4_method_4_code 55 = .ok (.iload 6, 2) := by decide +kernel
theorem d_ch_fairSize_57 : decode prog_4_method_4_code 57 = .ok (.iload 4, 2) := by decide +kernel
theorem d_ch_fairSize_59 : decode prog_4_method_4_code 59 = .ok (.if_icmp .ne 14, 3) := by decide +kernel
theorem d_ch_fairSize_62 : decode prog_4_method_4_code 62 = .ok (.aload_n 0, 1) := by decide +kernel
theorem d_ch_fairSize_63 : decode prog_4_method_4_code 63 = .ok (.aload_n 1, 1) := by decide +kernel
theorem d_ch_fairSize_64 : decode prog_4_method_4_code 64 = .ok (.getfield 56, 3) := by decide +kernel
theorem d_ch_fairSize_67 : decode prog_4_method_4_code 67 = .ok (.iload 7, 2) := by decide +kernel
theorem d_ch_fairSize_69 : decode prog_4_method_4_code 69 = .ok (.aaload, 1) := by decide +kernel
theorem d_ch_fairSize_70 : decode prog_4_method_4_code 70 = .ok (.invokevirtual 33, 3) := by decide +kernel
theorem d_ch_fairSize_73 : decode prog_4_method_4_code 73 = .ok (.iinc 5 1, 3) := by decide +kernel
theorem d_ch_fairSize_76 : decode prog_4_method_4_code 76 = .ok (.goto (-54), 3) := by decide +kernel
theorem d_ch_fairSize_79 : decode prog_4_method_4_code 79 = .ok (.aload_n 0, 1) := by decide +kernel
theorem d_ch_fairSize_80 : decode prog_4_method_4_code 80 = .ok (.getfield 12, 3) := by decide +kernel
theorem d_ch_fairSize_83 : decode prog_4_method_4_code 83 = .ok (.getfield 29, 3) := by decide +kernel
theorem d_ch_fairSize_86 : decode prog_4_method_4_code 86 = .ok (.ireturn, 1) := by decide +kernel
theorem d_ch_lot_0 : decode prog_4_method_5_code 0 = .ok (.aload_n 0, 1) := by decide +kernel
theorem d_ch_lot_1 : decode prog_4_method_5_code 1 = .ok (.ldc 60, 2) := by decide +kernel
theorem d_ch_lot_3 : decode prog_4_method_5_code 3 = .ok (.aload_n 0, 1) := by decide +kernel
theorem d_ch_lot_4 : decode prog_4_method_5_code 4 = .ok (.getfield 37, 3) := by decide +kernel
theorem d_ch_lot_7 : decode prog_4_method_5_code 7 = .ok (.imul, 1) := by decide +kernel
theorem d_ch_lot_8 : decode prog_4_method_5_code 8 = .ok (.sipush 12345, 3) := by decide +kernel
theorem d_ch_lot_11 : decode prog_4_method_5_code 11 = .ok (.iadd, 1) := by decide +kernel
theorem d_ch_lot_12 : decode prog_4_method_5_code 12 = .ok (.putfield 37, 3) := by decide +kernel
theorem d_ch_lot_15 : decode prog_4_method_5_code 15 = .ok (.iload_n 1, 1) := by decide +kernel
theorem d_ch_lot_16 : decode prog_4_method_5_code 16 = .ok (.ifCond .le 15, 3) := by decide +kernel
theorem d_ch_lot_19 : decode prog_4_method_5_code 19 = .ok (.aload_n 0, 1) := by decide +kernel
theorem d_ch_lot_20 : decode prog_4_method_5_code 20 = .ok (.getfield 37, 3) := by decide +kernel
theorem d_ch_lot_23 : decode prog_4_method_5_code 23 = .ok (.bipush 16, 2) := by decide +kernel
theorem d_ch_lot_25 : decode prog_4_method_5_code 25 = .ok (.iushr, 1) := by decide +kernel
theorem d_ch_lot_26 : decode prog_4_method_5_code 26 = .ok (.iload_n 1, 1) := by decide +kernel
theorem d_ch_lot_27 : decode prog_4_method_5_code 27 = .ok (.irem, 1) := by decide +kernel
theorem d_ch_lot_28 : decode prog_4_method_5_code 28 = .ok (.goto 4, 3) := by decide +kernel
theorem d_ch_lot_31 : decode prog_4_method_5_code 31 = .ok (.iconst 0, 1) := by decide +kernel
theorem d_ch_lot_32 : decode prog_4_method_5_code 32 = .ok (.ireturn, 1) := by decide +kernel
theorem d_ch_hum_0 : decode prog_4_method_6_code 0 = .ok (.aload_n 0, 1) := by decide +kernel
theorem d_ch_hum_1 : decode prog_4_method_6_code 1 = .ok (.getfield 18, 3) := by decide +kernel
theorem d_ch_hum_4 : decode prog_4_method_6_code 4 = .ok (.aload_n 0, 1) := by decide +kernel
theorem d_ch_hum_5 : decode prog_4_method_6_code 5 = .ok (.getfield 12, 3) := by decide +kernel
theorem d_ch_hum_8 : decode prog_4_method_6_code 8 = .ok (.aload_n 1, 1) := by decide +kernel
theorem d_ch_hum_9 : decode prog_4_method_6_code 9 = .ok (.invokevirtual 61, 3) := by decide +kernel
theorem d_ch_hum_12 : decode prog_4_method_6_code 12 = .ok (.aload_n 0, 1) := by decide +kernel
theorem d_ch_hum_13 : decode prog_4_method_6_code 13 = .ok (.getfield 12, 3) := by decide +kernel
theorem d_ch_hum_16 : decode prog_4_method_6_code 16 = .ok (.aload_n 0, 1) := by decide +kernel
theorem d_ch_hum_17 : decode prog_4_method_6_code 17 = .ok (.getfield 18, 3) := by decide +kernel
theorem d_ch_hum_20 : decode prog_4_method_6_code 20 = .ok (.invokevirtual 25, 3) := by decide +kernel
theorem d_ch_hum_23 : decode prog_4_method_6_code 23 = .ok (.return_, 1) := by decide +kernel
theorem d_tr_begin_0 : decode prog_10_method_2_code 0 = .ok (.aload_n 0, 1) := by decide +kernel
theorem d_tr_begin_1 : decode prog_10_method_2_code 1 = .ok (.getfield 11, 3) := by decide +kernel
theorem d_tr_begin_4 : decode prog_10_method_2_code 4 = .ok (.iconst 0, 1) := by decide +kernel
theorem d_tr_begin_5 : decode prog_10_method_2_code 5 = .ok (.aaload, 1) := by decide +kernel
theorem d_tr_begin_6 : decode prog_10_method_2_code 6 = .ok (.aload_n 1, 1) := by decide +kernel
theorem d_tr_begin_7 : decode prog_10_method_2_code 7 = .ok (.invokevirtual 22, 3) := by decide +kernel
theorem d_tr_begin_10 : decode prog_10_method_2_code 10 = .ok (.aload_n 0, 1) := by decide +kernel
theorem d_tr_begin_11 : decode prog_10_method_2_code 11 = .ok (.iconst 0, 1) := by decide +kernel
theorem d_tr_begin_12 : decode prog_10_method_2_code 12 = .ok (.putfield 26, 3) := by decide +kernel
theorem d_tr_begin_15 : decode prog_10_method_2_code 15 = .ok (.return_, 1) := by decide +kernel
theorem d_tr_rowsOf_0 : decode prog_10_method_3_code 0 = .ok (.iconst 1, 1) := by decide +kernel
theorem d_tr_rowsOf_1 : decode prog_10_method_3_code 1 = .ok (.istore_n 3, 1) := by decide +kernel
theorem d_tr_rowsOf_2 : decode prog_10_method_3_code 2 = .ok (.iconst 0, 1) := by decide +kernel
theorem d_tr_rowsOf_3 : decode prog_10_method_3_code 3 = .ok (.istore 4, 2) := by decide +kernel
theorem d_tr_rowsOf_5 : decode prog_10_method_3_code 5 = .ok (.iload 4, 2) := by decide +kernel
theorem d_tr_rowsOf_7 : decode prog_10_method_3_code 7 = .ok (.iload_n 2, 1) := by decide +kernel
theorem d_tr_rowsOf_8 : decode prog_10_method_3_code 8 = .ok (.if_icmp .ge 16, 3) := by decide +kernel
theorem d_tr_rowsOf_11 : decode prog_10_method_3_code 11 = .ok (.iload_n 3, 1) := by decide +kernel
theorem d_tr_rowsOf_12 : decode prog_10_method_3_code 12 = .ok (.aload_n 1, 1) := by decide +kernel
theorem d_tr_rowsOf_13 : decode prog_10_method_3_code 13 = .ok (.getfield 30, 3) := by decide +kernel
theorem d_tr_rowsOf_16 : decode prog_10_method_3_code 16 = .ok (.imul, 1) := by decide +kernel
theorem d_tr_rowsOf_17 : decode prog_10_method_3_code 17 = .ok (.istore_n 3, 1) := by decide +kernel
theorem d_tr_rowsOf_18 : decode prog_10_method_3_code 18 = .ok (.iinc 4 1, 3) := by decide +kernel
theorem d_tr_rowsOf_21 : decode prog_10_method_3_code 21 = .ok (.goto (-16), 3) := by decide +kernel
theorem d_tr_rowsOf_24 : decode prog_10_method_3_code 24 = .ok (.iload_n 3, 1) := by decide +kernel
theorem d_tr_rowsOf_25 : decode prog_10_method_3_code 25 = .ok (.ireturn, 1) := by decide +kernel
theorem d_tr_turnOf_0 : decode prog_10_method_4_code 0 = .ok (.aload_n 1, 1) := by decide +kernel
theorem d_tr_turnOf_1 : decode prog_10_method_4_code 1 = .ok (.getfield 30, 3) := by decide +kernel
theorem d_tr_turnOf_4 : decode prog_10_method_4_code 4 = .ok (.istore 5, 2) := by decide +kernel
theorem d_tr_turnOf_6 : decode prog_10_method_4_code 6 = .ok (.aload_n 0, 1) := by decide +kernel
theorem d_tr_turnOf_7 : decode prog_10_method_4_code 7 = .ok (.aload_n 1, 1) := by decide +kernel
theorem d_tr_turnOf_8 : decode prog_10_method_4_code 8 = .ok (.iload_n 2, 1) := by decide +kernel
theorem d_tr_turnOf_9 : decode prog_10_method_4_code 9 = .ok (.iconst 1, 1) := by decide +kernel
theorem d_tr_turnOf_10 : decode prog_10_method_4_code 10 = .ok (.isub, 1) := by decide +kernel
theorem d_tr_turnOf_11 : decode prog_10_method_4_code 11 = .ok (.iload 4, 2) := by decide +kernel
theorem d_tr_turnOf_13 : decode prog_10_method_4_code 13 = .ok (.isub, 1) := by decide +kernel
theorem d_tr_turnOf_14 : decode prog_10_method_4_code 14 = .ok (.invokevirtual 35, 3) := by decide +kernel
theorem d_tr_turnOf_17 : decode prog_10_method_4_code 17 = .ok (.istore 6, 2) := by decide +kernel
theorem d_tr_turnOf_19 : decode prog_10_method_4_code 19 = .ok (.iload 4, 2) := by decide +kernel
theorem d_tr_turnOf_21 : decode prog_10_method_4_code 21 = .ok (.iload_n 2, 1) := by decide +kernel
theorem d_tr_turnOf_22 : decode prog_10_method_4_code 22 = .ok (.if_icmp .ge 23, 3) := by decide +kernel
theorem d_tr_turnOf_25 : decode prog_10_method_4_code 25 = .ok (.iload 5, 2) := by decide +kernel
theorem d_tr_turnOf_27 : decode prog_10_method_4_code 27 = .ok (.ifCond .le 18, 3) := by decide +kernel
theorem d_tr_turnOf_30 : decode prog_10_method_4_code 30 = .ok (.iload 6, 2) := by decide +kernel
theorem d_tr_turnOf_32 : decode prog_10_method_4_code 32 = .ok (.ifCond .le 13, 3) := by decide +kernel
theorem d_tr_turnOf_35 : decode prog_10_method_4_code 35 = .ok (.iload_n 3, 1) := by decide +kernel
theorem d_tr_turnOf_36 : decode prog_10_method_4_code 36 = .ok (.iload 6, 2) := by decide +kernel
theorem d_tr_turnOf_38 : decode prog_10_method_4_code 38 = .ok (.idiv, 1) := by decide +kernel
theorem d_tr_turnOf_39 : decode prog_10_method_4_code 39 = .ok (.iload 5, 2) := by decide +kernel
theorem d_tr_turnOf_41 : decode prog_10_method_4_code 41 = .ok (.irem, 1) := by decide +kernel
theorem d_tr_turnOf_42 : decode prog_10_method_4_code 42 = .ok (.goto 4, 3) := by decide +kernel
theorem d_tr_turnOf_45 : decode prog_10_method_4_code 45 = .ok (.iconst (-1), 1) := by decide +kernel
theorem d_tr_turnOf_46 : decode prog_10_method_4_code 46 = .ok (.ireturn, 1) := by decide +kernel
theorem d_tr_after_0 : decode prog_10_method_5_code 0 = .ok (.iconst 0, 1) := by decide +kernel
theorem d_tr_after_1 : decode prog_10_method_5_code 1 = .ok (.istore 4, 2) := by decide +kernel
theorem d_tr_after_3 : decode prog_10_method_5_code 3 = .ok (.iload 4, 2) := by decide +kernel
theorem d_tr_after_5 : decode prog_10_method_5_code 5 = .ok (.iload_n 2, 1) := by decide +kernel
theorem d_tr_after_6 : decode prog_10_method_5_code 6 = .ok (.if_icmp .ge 90, 3) := by decide +kernel
theorem d_tr_after_9 : decode prog_10_method_5_code 9 = .ok (.aload_n 0, 1) := by decide +kernel
theorem d_tr_after_10 : decode prog_10_method_5_code 10 = .ok (.aload_n 1, 1) := by decide +kernel
theorem d_tr_after_11 : decode prog_10_method_5_code 11 = .ok (.iload_n 2, 1) := by decide +kernel
theorem d_tr_after_12 : decode prog_10_method_5_code 12 = .ok (.iload_n 3, 1) := by decide +kernel
theorem d_tr_after_13 : decode prog_10_method_5_code 13 = .ok (.iload 4, 2) := by decide +kernel
theorem d_tr_after_15 : decode prog_10_method_5_code 15 = .ok (.invokevirtual 39, 3) := by decide +kernel
theorem d_tr_after_18 : decode prog_10_method_5_code 18 = .ok (.istore 5, 2) := by decide +kernel
theorem d_tr_after_20 : decode prog_10_method_5_code 20 = .ok (.iload 5, 2) := by decide +kernel
theorem d_tr_after_22 : decode prog_10_method_5_code 22 = .ok (.iconst (-1), 1) := by decide +kernel
theorem d_tr_after_23 : decode prog_10_method_5_code 23 = .ok (.if_icmp .eq 67, 3) := by decide +kernel
theorem d_tr_after_26 : decode prog_10_method_5_code 26 = .ok (.iload 4, 2) := by decide +kernel
theorem d_tr_after_28 : decode prog_10_method_5_code 28 = .ok (.aload_n 0, 1) := by decide +kernel
theorem d_tr_after_29 : decode prog_10_method_5_code 29 = .ok (.getfield 26, 3) := by decide +kernel
theorem d_tr_after_32 : decode prog_10_method_5_code 32 = .ok (.if_icmp .ge 15, 3) := by decide +kernel
theorem d_tr_after_35 : decode prog_10_method_5_code 35 = .ok (.aload_n 0, 1) := by decide +kernel
theorem d_tr_after_36 : decode prog_10_method_5_code 36 = .ok (.getfield 17, 3) := by decide +kernel
theorem d_tr_after_39 : decode prog_10_method_5_code 39 = .ok (.iload 4, 2) := by decide +kernel
theorem d_tr_after_41 : decode prog_10_method_5_code 41 = .ok (.iaload, 1) := by decide +kernel
theorem d_tr_after_42 : decode prog_10_method_5_code 42 = .ok (.iload 5, 2) := by decide +kernel
theorem d_tr_after_44 : decode prog_10_method_5_code 44 = .ok (.if_icmp .eq 46, 3) := by decide +kernel
theorem d_tr_after_47 : decode prog_10_method_5_code 47 = .ok (.aload_n 0, 1) := by decide +kernel
theorem d_tr_after_48 : decode prog_10_method_5_code 48 = .ok (.getfield 17, 3) := by decide +kernel
theorem d_tr_after_51 : decode prog_10_method_5_code 51 = .ok (.iload 4, 2) := by decide +kernel
theorem d_tr_after_53 : decode prog_10_method_5_code 53 = .ok (.iload 5, 2) := by decide +kernel
theorem d_tr_after_55 : decode prog_10_method_5_code 55 = .ok (.iastore, 1) := by decide +kernel
theorem d_tr_after_56 : decode prog_10_method_5_code 56 = .ok (.aload_n 0, 1) := by decide +kernel
theorem d_tr_after_57 : decode prog_10_method_5_code 57 = .ok (.getfield 11, 3) := by decide +kernel
theorem d_tr_after_60 : decode prog_10_method_5_code 60 = .ok (.iload 4, 2) := by decide +kernel
theorem d_tr_after_62 : decode prog_10_method_5_code 62 = .ok (.iconst 1, 1) := by decide +kernel
theorem d_tr_after_63 : decode prog_10_method_5_code 63 = .ok (.iadd, 1) := by decide +kernel
theorem d_tr_after_64 : decode prog_10_method_5_code 64 = .ok (.aaload, 1) := by decide +kernel
theorem d_tr_after_65 : decode prog_10_method_5_code 65 = .ok (.aload_n 0, 1) := by decide +kernel
theorem d_tr_after_66 : decode prog_10_method_5_code 66 = .ok (.getfield 11, 3) := by decide +kernel
theorem d_tr_after_69 : decode prog_10_method_5_code 69 = .ok (.iload 4, 2) := by decide +kernel
theorem d_tr_after_71 : decode prog_10_method_5_code 71 = .ok (.aaload, 1) := by decide +kernel
theorem d_tr_after_72 : decode prog_10_method_5_code 72 = .ok (.aload_n 1, 1) := by decide +kernel
theorem d_tr_after_73 : decode prog_10_method_5_code 73 = .ok (.getfield 43, 3) := by decide +kernel
theorem d_tr_after_76 : decode prog_10_method_5_code 76 = .ok (.iload 5, 2) := by decide +kernel
theorem d_tr_after_78 : decode prog_10_method_5_code 78 = .ok (.aaload, 1) := by decide +kernel
theorem d_tr_after_79 : decode prog_10_method_5_code 79 = .ok (.invokevirtual 47, 3) := by decide +kernel
theorem d_tr_after_82 : decode prog_10_method_5_code 82 = .ok (.aload_n 0, 1) := by decide +kernel
theorem d_tr_after_83 : decode prog_10_method_5_code 83 = .ok (.iload 4, 2) := by decide +kernel
theorem d_tr_after_85 : decode prog_10_method_5_code 85 = .ok (.iconst 1, 1) := by decide +kernel
theorem d_tr_after_86 : decode prog_10_method_5_code 86 = .ok (.iadd, 1) := by decide +kernel
theorem d_tr_after_87 : decode prog_10_method_5_code 87 = .ok (.putfield 26, 3) := by decide +kernel
theorem d_tr_after_90 : decode prog_10_method_5_code 90 = .ok (.iinc 4 1, 3) := by decide +kernel
theorem d_tr_after_93 : decode prog_10_method_5_code 93 = .ok (.goto (-90), 3) := by decide +kernel
theorem d_tr_after_96 : decode prog_10_method_5_code 96 = .ok (.aload_n 0, 1) := by decide +kernel
theorem d_tr_after_97 : decode prog_10_method_5_code 97 = .ok (.getfield 11, 3) := by decide +kernel
theorem d_tr_after_100 : decode prog_10_method_5_code 100 = .ok (.iload_n 2, 1) := by decide +kernel
theorem d_tr_after_101 : decode prog_10_method_5_code 101 = .ok (.aaload, 1) := by decide +kernel
theorem d_tr_after_102 : decode prog_10_method_5_code 102 = .ok (.areturn, 1) := by decide +kernel
theorem d_tr_figures_0 : decode prog_10_method_6_code 0 = .ok (.iconst 0, 1) := by decide +kernel
theorem d_tr_figures_1 : decode prog_10_method_6_code 1 = .ok (.istore 4, 2) := by decide +kernel
theorem d_tr_figures_3 : decode prog_10_method_6_code 3 = .ok (.iconst 0, 1) := by decide +kernel
theorem d_tr_figures_4 : decode prog_10_method_6_code 4 = .ok (.istore 5, 2) := by decide +kernel
theorem d_tr_figures_6 : decode prog_10_method_6_code 6 = .ok (.iload 5, 2) := by decide +kernel
theorem d_tr_figures_8 : decode prog_10_method_6_code 8 = .ok (.iload_n 2, 1) := by decide +kernel
theorem d_tr_figures_9 : decode prog_10_method_6_code 9 = .ok (.if_icmp .ge 28, 3) := by decide +kernel
theorem d_tr_figures_12 : decode prog_10_method_6_code 12 = .ok (.iload 4, 2) := by decide +kernel
theorem d_tr_figures_14 : decode prog_10_method_6_code 14 = .ok (.bipush 7, 2) := by decide +kernel
theorem d_tr_figures_16 : decode prog_10_method_6_code 16 = .ok (.imul, 1) := by decide +kernel
theorem d_tr_figures_17 : decode prog_10_method_6_code 17 = .ok (.aload_n 0, 1) := by decide +kernel
theorem d_tr_figures_18 : decode prog_10_method_6_code 18 = .ok (.aload_n 1, 1) := by decide +kernel
theorem d_tr_figures_19 : decode prog_10_method_6_code 19 = .ok (.iload_n 2, 1) := by decide +kernel
theorem d_tr_figures_20 : decode prog_10_method_6_code 20 = .ok (.iload_n 3, 1) := by decide +kernel
theorem d_tr_figures_21 : decode prog_10_method_6_code 21 = .ok (.iload 5, 2) := by decide +kernel
theorem d_tr_figures_23 : decode prog_10_method_6_code 23 = .ok (.invokevirtual 39, 3) := by decide +kernel
theorem d_tr_figures_26 : decode prog_10_method_6_code 26 = .ok (.iadd, 1) := by decide +kernel
theorem d_tr_figures_27 : decode prog_10_method_6_code 27 = .ok (.iconst 1, 1) := by decide +kernel
theorem d_tr_figures_28 : decode prog_10_method_6_code 28 = .ok (.iadd, 1) := by decide +kernel
theorem d_tr_figures_29 : decode prog_10_method_6_code 29 = .ok (.istore 4, 2) := by decide +kernel
theorem d_tr_figures_31 : decode prog_10_method_6_code 31 = .ok (.iinc 5 1, 3) := by decide +kernel
theorem d_tr_figures_34 : decode prog_10_method_6_code 34 = .ok (.goto (-28), 3) := by decide +kernel
theorem d_tr_figures_37 : decode prog_10_method_6_code 37 = .ok (.iload 4, 2) := by decide +kernel
theorem d_tr_figures_39 : decode prog_10_method_6_code 39 = .ok (.ireturn, 1) := by decide +kernel
theorem d_ye_forget_0 : decode prog_11_method_2_code 0 = .ok (.aload_n 0, 1) := by decide +kernel
theorem d_ye_forget_1 : decode prog_11_method_2_code 1 = .ok (.iconst (-1), 1) := by decide +kernel
theorem d_ye_forget_2 : decode prog_11_method_2_code 2 = .ok (.putfield 38, 3) := by decide +kernel
theorem d_ye_forget_5 : decode prog_11_method_2_code 5 = .ok (.return_, 1) := by decide +kernel
theorem d_ye_live_0 : decode prog_11_method_3_code 0 = .ok (.aload_n 0, 1) := by decide +kernel
theorem d_ye_live_1 : decode prog_11_method_3_code 1 = .ok (.getfield 38, 3) := by decide +kernel
theorem d_ye_live_4 : decode prog_11_method_3_code 4 = .ok (.iload_n 2, 1) := by decide +kernel
theorem d_ye_live_5 : decode prog_11_method_3_code 5 = .ok (.if_icmp .ne 4, 3) := by decide +kernel
theorem d_ye_live_8 : decode prog_11_method_3_code 8 = .ok (.return_, 1) := by decide +kernel
theorem d_ye_live_9 : decode prog_11_method_3_code 9 = .ok (.aload_n 0, 1) := by decide +kernel
theorem d_ye_live_10 : decode prog_11_method_3_code 10 = .ok (.aload_n 1, 1) := by decide +kernel
theorem d_ye_live_11 : decode prog_11_method_3_code 11 = .ok (.invokevirtual 42, 3) := by decide +kernel
theorem d_ye_live_14 : decode prog_11_method_3_code 14 = .ok (.iconst 0, 1) := by decide +kernel
theorem d_ye_live_15 : decode prog_11_method_3_code 15 = .ok (.istore 4, 2) := by decide +kernel
theorem d_ye_live_17 : decode prog_11_method_3_code 17 = .ok (.iload 4, 2) := by decide +kernel
theorem d_ye_live_19 : decode prog_11_method_3_code 19 = .ok (.bipush 40, 2) := by decide +kernel
theorem d_ye_live_21 : decode prog_11_method_3_code 21 = .ok (.if_icmp .ge 37, 3) := by decide +kernel
theorem d_ye_live_24 : decode prog_11_method_3_code 24 = .ok (.aload_n 0, 1) := by decide +kernel
theorem d_ye_live_25 : decode prog_11_method_3_code 25 = .ok (.aload_n 1, 1) := by decide +kernel
theorem d_ye_live_26 : decode prog_11_method_3_code 26 = .ok (.iload 4, 2) := by decide +kernel
theorem d_ye_live_28 : decode prog_11_method_3_code 28 = .ok (.invokevirtual 46, 3) := by decide +kernel
theorem d_ye_live_31 : decode prog_11_method_3_code 31 = .ok (.aload_n 0, 1) := by decide +kernel
theorem d_ye_live_32 : decode prog_11_method_3_code 32 = .ok (.aload_n 1, 1) := by decide +kernel
theorem d_ye_live_33 : decode prog_11_method_3_code 33 = .ok (.invokevirtual 50, 3) := by decide +kernel
theorem d_ye_live_36 : decode prog_11_method_3_code 36 = .ok (.aload_n 0, 1) := by decide +kernel
theorem d_ye_live_37 : decode prog_11_method_3_code 37 = .ok (.aload_n 1, 1) := by decide +kernel
theorem d_ye_live_38 : decode prog_11_method_3_code 38 = .ok (.iload 4, 2) := by decide +kernel
theorem d_ye_live_40 : decode prog_11_method_3_code 40 = .ok (.iload_n 2, 1) := by decide +kernel
theorem d_ye_live_41 : decode prog_11_method_3_code 41 = .ok (.aload_n 3, 1) := by decide +kernel
theorem d_ye_live_42 : decode prog_11_method_3_code 42 = .ok (.invokevirtual 53, 3) := by decide +kernel
theorem d_ye_live_45 : decode prog_11_method_3_code 45 = .ok (.aload_n 0, 1) := by decide +kernel
theorem d_ye_live_46 : decode prog_11_method_3_code 46 = .ok (.aload_n 1, 1) := by decide +kernel
theorem d_ye_live_47 : decode prog_11_method_3_code 47 = .ok (.iload 4, 2) := by decide +kernel
theorem d_ye_live_49 : decode prog_11_method_3_code 49 = .ok (.invokevirtual 57, 3) := by decide +kernel
theorem d_ye_live_52 : decode prog_11_method_3_code 52 = .ok (.iinc 4 1, 3) := by decide +kernel
theorem d_ye_live_55 : decode prog_11_method_3_code 55 = .ok (.goto (-38), 3) := by decide +kernel
theorem d_ye_live_58 : decode prog_11_method_3_code 58 = .ok (.aload_n 0, 1) := by decide +kernel
theorem d_ye_live_59 : decode prog_11_method_3_code 59 = .ok (.iload_n 2, 1) := by decide +kernel
theorem d_ye_live_60 : decode prog_11_method_3_code 60 = .ok (.putfield 38, 3) := by decide +kernel
theorem d_ye_live_63 : decode prog_11_method_3_code 63 = .ok (.return_, 1) := by decide +kernel
theorem d_ye_sizeOf_0 : decode prog_11_method_4_code 0 = .ok (.aload_n 0, 1) := by decide +kernel
theorem d_ye_sizeOf_1 : decode prog_11_method_4_code 1 = .ok (.getfield 32, 3) := by decide +kernel
theorem d_ye_sizeOf_4 : decode prog_11_method_4_code 4 = .ok (.iload_n 1, 1) := by decide +kernel
theorem d_ye_sizeOf_5 : decode prog_11_method_4_code 5 = .ok (.bipush 6, 2) := by decide +kernel
theorem d_ye_sizeOf_7 : decode prog_11_method_4_code 7 = .ok (.imul, 1) := by decide +kernel
theorem d_ye_sizeOf_8 : decode prog_11_method_4_code 8 = .ok (.iload_n 2, 1) := by decide +kernel
theorem d_ye_sizeOf_9 : decode prog_11_method_4_code 9 = .ok (.iadd, 1) := by decide +kernel
theorem d_ye_sizeOf_10 : decode prog_11_method_4_code 10 = .ok (.iaload, 1) := by decide +kernel
theorem d_ye_sizeOf_11 : decode prog_11_method_4_code 11 = .ok (.ireturn, 1) := by decide +kernel
theorem d_ye_noteOf_0 : decode prog_11_method_5_code 0 = .ok (.iload_n 1, 1) := by decide +kernel
theorem d_ye_noteOf_1 : decode prog_11_method_5_code 1 = .ok (.bipush 6, 2) := by decide +kernel
theorem d_ye_noteOf_3 : decode prog_11_method_5_code 3 = .ok (.imul, 1) := by decide +kernel
theorem d_ye_noteOf_4 : decode prog_11_method_5_code 4 = .ok (.iload_n 2, 1) := by decide +kernel
theorem d_ye_noteOf_5 : decode prog_11_method_5_code 5 = .ok (.iadd, 1) := by decide +kernel
theorem d_ye_noteOf_6 : decode prog_11_method_5_code 6 = .ok (.istore 4, 2) := by decide +kernel
theorem d_ye_noteOf_8 : decode prog_11_method_5_code 8 = .ok (.iload_n 3, 1) := by decide +kernel
theorem d_ye_noteOf_9 : decode prog_11_method_5_code 9 = .ok (.ifCond .lt 29, 3) := by decide +kernel
theorem d_ye_noteOf_12 : decode prog_11_method_5_code 12 = .ok (.iload_n 3, 1) := by decide +kernel
theorem d_ye_noteOf_13 : decode prog_11_method_5_code 13 = .ok (.aload_n 0, 1) := by decide +kernel
theorem d_ye_noteOf_14 : decode prog_11_method_5_code 14 = .ok (.getfield 32, 3) := by decide +kernel
theorem d_ye_noteOf_17 : decode prog_11_method_5_code 17 = .ok (.iload 4, 2) := by decide +kernel
theorem d_ye_noteOf_19 : decode prog_11_method_5_code 19 = .ok (.iaload, 1) := by decide +kernel
theorem d_ye_noteOf_20 : decode prog_11_method_5_code 20 = .ok (.if_icmp .ge 18, 3) := by decide +kernel
theorem d_ye_noteOf_23 : decode prog_11_method_5_code 23 = .ok (.aload_n 0, 1) := by decide +kernel
theorem d_ye_noteOf_24 : decode prog_11_method_5_code 24 = .ok (.getfield 29, 3) := by decide +kernel
theorem d_ye_noteOf_27 : decode prog_11_method_5_code 27 = .ok (.iload 4, 2) := by decide +kernel
theorem d_ye_noteOf_29 : decode prog_11_method_5_code 29 = .ok (.bipush 40, 2) := by decide +kernel
theorem d_ye_noteOf_31 : decode prog_11_method_5_code 31 = .ok (.imul, 1) := by decide +kernel
theorem d_ye_noteOf_32 : decode prog_11_method_5_code 32 = .ok (.iload_n 3, 1) := by decide +kernel
theorem d_ye_noteOf_33 : decode prog_11_method_5_code 33 = .ok (.iadd, 1) := by decide +kernel
theorem d_ye_noteOf_34 : decode prog_11_method_5_code 34 = .ok (.iaload, 1) := by decide +kernel
theorem d_ye_noteOf_35 : decode prog_11_method_5_code 35 = .ok (.goto 4, 3) := by decide +kernel
theorem d_ye_noteOf_38 : decode prog_11_method_5_code 38 = .ok (.iconst (-1), 1) := by decide +kernel
theorem d_ye_noteOf_39 : decode prog_11_method_5_code 39 = .ok (.ireturn, 1) := by decide +kernel
theorem d_ye_holderOf_0 : decode prog_11_method_6_code 0 = .ok (.aload_n 0, 1) := by decide +kernel
theorem d_ye_holderOf_1 : decode prog_11_method_6_code 1 = .ok (.getfield 35, 3) := by decide +kernel
theorem d_ye_holderOf_4 : decode prog_11_method_6_code 4 = .ok (.iload_n 1, 1) := by decide +kernel
theorem d_ye_holderOf_5 : decode prog_11_method_6_code 5 = .ok (.bipush 6, 2) := by decide +kernel
theorem d_ye_holderOf_7 : decode prog_11_method_6_code 7 = .ok (.imul, 1) := by decide +kernel
theorem d_ye_holderOf_8 : decode prog_11_method_6_code 8 = .ok (.iload_n 2, 1) := by decide +kernel
theorem d_ye_holderOf_9 : decode prog_11_method_6_code 9 = .ok (.iadd, 1) := by decide +kernel
theorem d_ye_holderOf_10 : decode prog_11_method_6_code 10 = .ok (.iaload, 1) := by decide +kernel
theorem d_ye_holderOf_11 : decode prog_11_method_6_code 11 = .ok (.ireturn, 1) := by decide +kernel
theorem d_ye_allAtBank_0 : decode prog_11_method_7_code 0 = .ok (.iconst 0, 1) := by decide +kernel
theorem d_ye_allAtBank_1 : decode prog_11_method_7_code 1 = .ok (.istore_n 3, 1) := by decide +kernel
theorem d_ye_allAtBank_2 : decode prog_11_method_7_code 2 = .ok (.iload_n 3, 1) := by decide +kernel
theorem d_ye_allAtBank_3 : decode prog_11_method_7_code 3 = .ok (.aload_n 1, 1) := by decide +kernel
theorem d_ye_allAtBank_4 : decode prog_11_method_7_code 4 = .ok (.getfield 60, 3) := by decide +kernel
theorem d_ye_allAtBank_7 : decode prog_11_method_7_code 7 = .ok (.if_icmp .ge 21, 3) := by decide +kernel
theorem d_ye_allAtBank_10 : decode prog_11_method_7_code 10 = .ok (.aload_n 0, 1) := by decide +kernel
theorem d_ye_allAtBank_11 : decode prog_11_method_7_code 11 = .ok (.iload_n 2, 1) := by decide +kernel
theorem d_ye_allAtBank_12 : decode prog_11_method_7_code 12 = .ok (.iload_n 3, 1) := by decide +kernel
theorem d_ye_allAtBank_13 : decode prog_11_method_7_code 13 = .ok (.invokevirtual 65, 3) := by decide +kernel
theorem d_ye_allAtBank_16 : decode prog_11_method_7_code 16 = .ok (.iconst (-1), 1) := by decide +kernel
theorem d_ye_allAtBank_17 : decode prog_11_method_7_code 17 = .ok (.if_icmp .eq 5, 3) := by decide +kernel
theorem d_ye_allAtBank_20 : decode prog_11_method_7_code 20 = .ok (.iconst 0, 1) := by decide +kernel
theorem d_ye_allAtBank_21 : decode prog_11_method_7_code 21 = .ok (.ireturn, 1) := by decide +kernel
theorem d_ye_allAtBank_22 : decode prog_11_method_7_code 22 = .ok (.iinc 3 1, 3) := by decide +kernel
theorem d_ye_allAtBank_25 : decode prog_11_method_7_code 25 = .ok (.goto (-23), 3) := by decide +kernel
theorem d_ye_allAtBank_28 : decode prog_11_method_7_code 28 = .ok (.iconst 1, 1) := by decide +kernel
theorem d_ye_allAtBank_29 : decode prog_11_method_7_code 29 = .ok (.ireturn, 1) := by decide +kernel
theorem d_ye_begin_0 : decode prog_11_method_8_code 0 = .ok (.iconst 0, 1) := by decide +kernel
theorem d_ye_begin_1 : decode prog_11_method_8_code 1 = .ok (.istore_n 2, 1) := by decide +kernel
theorem d_ye_begin_2 : decode prog_11_method_8_code 2 = .ok (.iload_n 2, 1) := by decide +kernel
theorem d_ye_begin_3 : decode prog_11_method_8_code 3 = .ok (.aload_n 1, 1) := by decide +kernel
theorem d_ye_begin_4 : decode prog_11_method_8_code 4 = .ok (.getfield 60, 3) := by decide +kernel
theorem d_ye_begin_7 : decode prog_11_method_8_code 7 = .ok (.if_icmp .ge 31, 3) := by decide +kernel
theorem d_ye_begin_10 : decode prog_11_method_8_code 10 = .ok (.aload_n 0, 1) := by decide +kernel
theorem d_ye_begin_11 : decode prog_11_method_8_code 11 = .ok (.getfield 11, 3) := by decide +kernel
theorem d_ye_begin_14 : decode prog_11_method_8_code 14 = .ok (.iload_n 2, 1) := by decide +kernel
theorem d_ye_begin_15 : decode prog_11_method_8_code 15 = .ok (.aaload, 1) := by decide +kernel
theorem d_ye_begin_16 : decode prog_11_method_8_code 16 = .ok (.aload_n 1, 1) := by decide +kernel
theorem d_ye_begin_17 : decode prog_11_method_8_code 17 = .ok (.getfield 69, 3) := by decide +kernel
theorem d_ye_begin_20 : decode prog_11_method_8_code 20 = .ok (.iload_n 2, 1) := by decide +kernel
theorem d_ye_begin_21 : decode prog_11_method_8_code 21 = .ok (.aaload, 1) := by decide +kernel
theorem d_ye_begin_22 : decode prog_11_method_8_code 22 = .ok (.invokevirtual 72, 3) := by decide +kernel
theorem d_ye_begin_25 : decode prog_11_method_8_code 25 = .ok (.aload_n 0, 1) := by decide +kernel
theorem d_ye_begin_26 : decode prog_11_method_8_code 26 = .ok (.getfield 20, 3) := by decide +kernel
theorem d_ye_begin_29 : decode prog_11_method_8_code 29 = .ok (.iload_n 2, 1) := by decide +kernel
theorem d_ye_begin_30 : decode prog_11_method_8_code 30 = .ok (.iconst (-1), 1) := by decide +kernel
theorem d_ye_begin_31 : decode prog_11_method_8_code 31 = .ok (.iastore, 1) := by decide +kernel
theorem d_ye_begin_32 : decode prog_11_method_8_code 32 = .ok (.iinc 2 1, 3) := by decide +kernel
theorem d_ye_begin_35 : decode prog_11_method_8_code 35 = .ok (.goto (-33), 3) := by decide +kernel
theorem d_ye_begin_38 : decode prog_11_method_8_code 38 = .ok (.iconst 0, 1) := by decide +kernel
theorem d_ye_begin_39 : decode prog_11_method_8_code 39 = .ok (.istore_n 2, 1) := by decide +kernel
theorem d_ye_begin_40 : decode prog_11_method_8_code 40 = .ok (.iload_n 2, 1) := by decide +kernel
theorem d_ye_begin_41 : decode prog_11_method_8_code 41 = .ok (.aload_n 1, 1) := by decide +kernel
theorem d_ye_begin_42 : decode prog_11_method_8_code 42 = .ok (.getfield 76, 3) := by decide +kernel
theorem d_ye_begin_45 : decode prog_11_method_8_code 45 = .ok (.if_icmp .ge 31, 3) := by decide +kernel
theorem d_ye_begin_48 : decode prog_11_method_8_code 48 = .ok (.aload_n 1, 1) := by decide +kernel
theorem d_ye_begin_49 : decode prog_11_method_8_code 49 = .ok (.getfield 79, 3) := by decide +kernel
theorem d_ye_begin_52 : decode prog_11_method_8_code 52 = .ok (.iload_n 2, 1) := by decide +kernel
theorem d_ye_begin_53 : decode prog_11_method_8_code 53 = .ok (.aaload, 1) := by decide +kernel
theorem d_ye_begin_54 : decode prog_11_method_8_code 54 = .ok (.astore_n 3, 1) := by decide +kernel
theorem d_ye_begin_55 : decode prog_11_method_8_code 55 = .ok (.aload_n 3, 1) := by decide +kernel
theorem d_ye_begin_56 : decode prog_11_method_8_code 56 = .ok (.iconst 0, 1) := by decide +kernel
theorem d_ye_begin_57 : decode prog_11_method_8_code 57 = .ok (.putfield 83, 3) := by decide +kernel
theorem d_ye_begin_60 : decode prog_11_method_8_code 60 = .ok (.aload_n 3, 1) := by decide +kernel
theorem d_ye_begin_61 : decode prog_11_method_8_code 61 = .ok (.iconst 0, 1) := by decide +kernel
theorem d_ye_begin_62 : decode prog_11_method_8_code 62 = .ok (.putfield 89, 3) := by decide +kernel
theorem d_ye_begin_65 : decode prog_11_method_8_code 65 = .ok (.aload_n 3, 1) := by decide +kernel
theorem d_ye_begin_66 : decode prog_11_method_8_code 66 = .ok (.iconst 0, 1) := by decide +kernel
theorem d_ye_begin_67 : decode prog_11_method_8_code 67 = .ok (.putfield 92, 3) := by decide +kernel
theorem d_ye_begin_70 : decode prog_11_method_8_code 70 = .ok (.iinc 2 1, 3) := by decide +kernel
theorem d_ye_begin_73 : decode prog_11_method_8_code 73 = .ok (.goto (-33), 3) := by decide +kernel
theorem d_ye_begin_76 : decode prog_11_method_8_code 76 = .ok (.return_, 1) := by decide +kernel
theorem d_ye_lendOut_0 : decode prog_11_method_9_code 0 = .ok (.iconst 0, 1) := by decide +kernel
theorem d_ye_lendOut_1 : decode prog_11_method_9_code 1 = .ok (.istore_n 3, 1) := by decide +kernel
theorem d_ye_lendOut_2 : decode prog_11_method_9_code 2 = .ok (.iload_n 3, 1) := by decide +kernel
theorem d_ye_lendOut_3 : decode prog_11_method_9_code 3 = .ok (.aload_n 1, 1) := by decide +kernel
theorem d_ye_lendOut_4 : decode prog_11_method_9_code 4 = .ok (.getfield 76, 3) := by decide +kernel
theorem d_ye_lendOut_7 : decode prog_11_method_9_code 7 = .ok (.if_icmp .ge 116, 3) := by decide +kernel
theorem d_ye_lendOut_10 : decode prog_11_method_9_code 10 = .ok (.aload_n 1, 1) := by decide +kernel
theorem d_ye_lendOut_11 : decode prog_11_method_9_code 11 = .ok (.getfield 79, 3) := by decide +kernel
theorem d_ye_lendOut_14 : decode prog_11_method_9_code 14 = .ok (.iload_n 3, 1) := by decide +kernel
theorem d_ye_lendOut_15 : decode prog_11_method_9_code 15 = .ok (.aaload, 1) := by decide +kernel
theorem d_ye_lendOut_16 : decode prog_11_method_9_code 16 = .ok (.astore 4, 2) := by decide +kernel
theorem d_ye_lendOut_18 : decode prog_11_method_9_code 18 = .ok (.aload 4, 2) := by decide +kernel
theorem d_ye_lendOut_20 : decode prog_11_method_9_code 20 = .ok (.getfield 95, 3) := by decide +kernel
theorem d_ye_lendOut_23 : decode prog_11_method_9_code 23 = .ok (.aload_n 1, 1) := by decide +kernel
theorem d_ye_lendOut_24 : decode prog_11_method_9_code 24 = .ok (.getfield 60, 3) := by decide +kernel
theorem d_ye_lendOut_27 : decode prog_11_method_9_code 27 = .ok (.if_icmp .ge 19, 3) := by decide +kernel
theorem d_ye_lendOut_30 : decode prog_11_method_9_code 30 = .ok (.aload 4, 2) := by decide +kernel
theorem d_ye_lendOut_32 : decode prog_11_method_9_code 32 = .ok (.getfield 98, 3) := by decide +kernel
theorem d_ye_lendOut_35 : decode prog_11_method_9_code 35 = .ok (.aload_n 1, 1) := by decide +kernel
theorem d_ye_lendOut_36 : decode prog_11_method_9_code 36 = .ok (.getfield 101, 3) := by decide +kernel
theorem d_ye_lendOut_39 : decode prog_11_method_9_code 39 = .ok (.if_icmp .ge 7, 3) := by decide +kernel
theorem d_ye_lendOut_42 : decode prog_11_method_9_code 42 = .ok (.iconst 1, 1) := by decide +kernel
theorem d_ye_lendOut_43 : decode prog_11_method_9_code 43 = .ok (.goto 4, 3) := by decide +kernel
theorem d_ye_lendOut_46 : decode prog_11_method_9_code 46 = .ok (.iconst 0, 1) := by decide +kernel
theorem d_ye_lendOut_47 : decode prog_11_method_9_code 47 = .ok (.istore 5, 2) := by decide +kernel
theorem d_ye_lendOut_49 : decode prog_11_method_9_code 49 = .ok (.aload 4, 2) := by decide +kernel
theorem d_ye_lendOut_51 : decode prog_11_method_9_code 51 = .ok (.getfield 104, 3) := by decide +kernel
theorem d_ye_lendOut_54 : decode prog_11_method_9_code 54 = .ok (.iload_n 2, 1) := by decide +kernel
theorem d_ye_lendOut_55 : decode prog_11_method_9_code 55 = .ok (.if_icmp .ne 62, 3) := by decide +kernel
theorem d_ye_lendOut_58 : decode prog_11_method_9_code 58 = .ok (.iload 5, 2) := by decide +kernel
theorem d_ye_lendOut_60 : decode prog_11_method_9_code 60 = .ok (.ifCond .eq 57, 3) := by decide +kernel
theorem d_ye_lendOut_63 : decode prog_11_method_9_code 63 = .ok (.aload_n 0, 1) := by decide +kernel
theorem d_ye_lendOut_64 : decode prog_11_method_9_code 64 = .ok (.getfield 20, 3) := by decide +kernel
theorem d_ye_lendOut_67 : decode prog_11_method_9_code 67 = .ok (.aload 4, 2) := by decide +kernel
theorem d_ye_lendOut_69 : decode prog_11_method_9_code 69 = .ok (.getfield 95, 3) := by decide +kernel
theorem d_ye_lendOut_72 : decode prog_11_method_9_code 72 = .ok (.iaload, 1) := by decide +kernel
theorem d_ye_lendOut_73 : decode prog_11_method_9_code 73 = .ok (.iconst (-1), 1) := by decide +kernel
theorem d_ye_lendOut_74 : decode prog_11_method_9_code 74 = .ok (.if_icmp .ne 43, 3) := by decide +kernel
theorem d_ye_lendOut_77 : decode prog_11_method_9_code 77 = .ok (.aload 4, 2) := by decide +kernel
theorem d_ye_lendOut_79 : decode prog_11_method_9_code 79 = .ok (.iconst 1, 1) := by decide +kernel
theorem d_ye_lendOut_80 : decode prog_11_method_9_code 80 = .ok (.putfield 83, 3) := by decide +kernel
theorem d_ye_lendOut_83 : decode prog_11_method_9_code 83 = .ok (.aload_n 0, 1) := by decide +kernel
theorem d_ye_lendOut_84 : decode prog_11_method_9_code 84 = .ok (.getfield 20, 3) := by decide +kernel
theorem d_ye_lendOut_87 : decode prog_11_method_9_code 87 = .ok (.aload 4, 2) := by decide +kernel
theorem d_ye_lendOut_89 : decode prog_11_method_9_code 89 = .ok (.getfield 95, 3) := by decide +kernel
theorem d_ye_lendOut_92 : decode prog_11_method_9_code 92 = .ok (.iload_n 3, 1) := by decide +kernel
theorem d_ye_lendOut_93 : decode prog_11_method_9_code 93 = .ok (.iastore, 1) := by decide +kernel
theorem d_ye_lendOut_94 : decode prog_11_method_9_code 94 = .ok (.aload_n 0, 1) := by decide +kernel
theorem d_ye_lendOut_95 : decode prog_11_method_9_code 95 = .ok (.getfield 17, 3) := by decide +kernel
theorem d_ye_lendOut_98 : decode prog_11_method_9_code 98 = .ok (.aload 4, 2) := by decide +kernel
theorem d_ye_lendOut_100 : decode prog_11_method_9_code 100 = .ok (.getfield 95, 3) := by decide +kernel
theorem d_ye_lendOut_103 : decode prog_11_method_9_code 103 = .ok (.aaload, 1) := by decide +kernel
theorem d_ye_lendOut_104 : decode prog_11_method_9_code 104 = .ok (.aload_n 0, 1) := by decide +kernel
theorem d_ye_lendOut_105 : decode prog_11_method_9_code 105 = .ok (.getfield 11, 3) := by decide +kernel
theorem d_ye_lendOut_108 : decode prog_11_method_9_code 108 = .ok (.aload 4, 2) := by decide +kernel
theorem d_ye_lendOut_110 : decode prog_11_method_9_code 110 = .ok (.getfield 95, 3) := by decide +kernel
theorem d_ye_lendOut_113 : decode prog_11_method_9_code 113 = .ok (.aaload, 1) := by decide +kernel
theorem d_ye_lendOut_114 : decode prog_11_method_9_code 114 = .ok (.invokevirtual 72, 3) := by decide +kernel
theorem d_ye_lendOut_117 : decode prog_11_method_9_code 117 = .ok (.iinc 3 1, 3) := by decide +kernel
theorem d_ye_lendOut_120 : decode prog_11_method_9_code 120 = .ok (.goto (-118), 3) := by decide +kernel
theorem d_ye_lendOut_123 : decode prog_11_method_9_code 123 = .ok (.return_, 1) := by decide +kernel
theorem d_ye_humLent_0 : decode prog_11_method_10_code 0 = .ok (.iconst 0, 1) := by decide +kernel
theorem d_ye_humLent_1 : decode prog_11_method_10_code 1 = .ok (.istore_n 2, 1) := by decide +kernel
theorem d_ye_humLent_2 : decode prog_11_method_10_code 2 = .ok (.iload_n 2, 1) := by decide +kernel
theorem d_ye_humLent_3 : decode prog_11_method_10_code 3 = .ok (.aload_n 1, 1) := by decide +kernel
theorem d_ye_humLent_4 : decode prog_11_method_10_code 4 = .ok (.getfield 60, 3) := by decide +kernel
theorem d_ye_humLent_7 : decode prog_11_method_10_code 7 = .ok (.if_icmp .ge 64, 3) := by decide +kernel
theorem d_ye_humLent_10 : decode prog_11_method_10_code 10 = .ok (.aload_n 0, 1) := by decide +kernel
theorem d_ye_humLent_11 : decode prog_11_method_10_code 11 = .ok (.getfield 20, 3) := by decide +kernel
theorem d_ye_humLent_14 : decode prog_11_method_10_code 14 = .ok (.iload_n 2, 1) := by decide +kernel
theorem d_ye_humLent_15 : decode prog_11_method_10_code 15 = .ok (.iaload, 1) := by decide +kernel
theorem d_ye_humLent_16 : decode prog_11_method_10_code 16 = .ok (.iconst (-1), 1) := by decide +kernel
theorem d_ye_humLent_17 : decode prog_11_method_10_code 17 = .ok (.if_icmp .eq 48, 3) := by decide +kernel
theorem d_ye_humLent_20 : decode prog_11_method_10_code 20 = .ok (.aload_n 0, 1) := by decide +kernel
theorem d_ye_humLent_21 : decode prog_11_method_10_code 21 = .ok (.getfield 25, 3) := by decide +kernel
theorem d_ye_humLent_24 : decode prog_11_method_10_code 24 = .ok (.aload_n 0, 1) := by decide +kernel
theorem d_ye_humLent_25 : decode prog_11_method_10_code 25 = .ok (.getfield 11, 3) := by decide +kernel
theorem d_ye_humLent_28 : decode prog_11_method_10_code 28 = .ok (.iload_n 2, 1) := by decide +kernel
theorem d_ye_humLent_29 : decode prog_11_method_10_code 29 = .ok (.aaload, 1) := by decide +kernel
theorem d_ye_humLent_30 : decode prog_11_method_10_code 30 = .ok (.aload_n 1, 1) := by decide +kernel
theorem d_ye_humLent_31 : decode prog_11_method_10_code 31 = .ok (.getfield 107, 3) := by decide +kernel
theorem d_ye_humLent_34 : decode prog_11_method_10_code 34 = .ok (.aload_n 1, 1) := by decide +kernel
theorem d_ye_humLent_35 : decode prog_11_method_10_code 35 = .ok (.getfield 79, 3) := by decide +kernel
theorem d_ye_humLent_38 : decode prog_11_method_10_code 38 = .ok (.aload_n 0, 1) := by decide +kernel
theorem d_ye_humLent_39 : decode prog_11_method_10_code 39 = .ok (.getfield 20, 3) := by decide +kernel
theorem d_ye_humLent_42 : decode prog_11_method_10_code 42 = .ok (.iload_n 2, 1) := by decide +kernel
theorem d_ye_humLent_43 : decode prog_11_method_10_code 43 = .ok (.iaload, 1) := by decide +kernel
theorem d_ye_humLent_44 : decode prog_11_method_10_code 44 = .ok (.aaload, 1) := by decide +kernel
theorem d_ye_humLent_45 : decode prog_11_method_10_code 45 = .ok (.getfield 98, 3) := by decide +kernel
theorem d_ye_humLent_48 : decode prog_11_method_10_code 48 = .ok (.aaload, 1) := by decide +kernel
theorem d_ye_humLent_49 : decode prog_11_method_10_code 49 = .ok (.invokevirtual 111, 3) := by decide +kernel
theorem d_ye_humLent_52 : decode prog_11_method_10_code 52 = .ok (.aload_n 0, 1) := by decide +kernel
theorem d_ye_humLent_53 : decode prog_11_method_10_code 53 = .ok (.getfield 11, 3) := by decide +kernel
theorem d_ye_humLent_56 : decode prog_11_method_10_code 56 = .ok (.iload_n 2, 1) := by decide +kernel
theorem d_ye_humLent_57 : decode prog_11_method_10_code 57 = .ok (.aaload, 1) := by decide +kernel
theorem d_ye_humLent_58 : decode prog_11_method_10_code 58 = .ok (.aload_n 0, 1) := by decide +kernel
theorem d_ye_humLent_59 : decode prog_11_method_10_code 59 = .ok (.getfield 25, 3) := by decide +kernel
theorem d_ye_humLent_62 : decode prog_11_method_10_code 62 = .ok (.invokevirtual 72, 3) := by decide +kernel
theorem d_ye_humLent_65 : decode prog_11_method_10_code 65 = .ok (.iinc 2 1, 3) := by decide +kernel
theorem d_ye_humLent_68 : decode prog_11_method_10_code 68 = .ok (.goto (-66), 3) := by decide +kernel
theorem d_ye_humLent_71 : decode prog_11_method_10_code 71 = .ok (.return_, 1) := by decide +kernel
theorem d_ye_comeBack_0 : decode prog_11_method_11_code 0 = .ok (.iconst 0, 1) := by decide +kernel
theorem d_ye_comeBack_1 : decode prog_11_method_11_code 1 = .ok (.istore 5, 2) := by decide +kernel
theorem d_ye_comeBack_3 : decode prog_11_method_11_code 3 = .ok (.iload 5, 2) := by decide +kernel
theorem d_ye_comeBack_5 : decode prog_11_method_11_code 5 = .ok (.aload_n 1, 1) := by decide +kernel
theorem d_ye_comeBack_6 : decode prog_11_method_11_code 6 = .ok (.getfield 60, 3) := by decide +kernel
theorem d_ye_comeBack_9 : decode prog_11_method_11_code 9 = .ok (.if_icmp .ge 171, 3) := by decide +kernel
theorem d_ye_comeBack_12 : decode prog_11_method_11_code 12 = .ok (.aload_n 0, 1) := by decide +kernel
theorem d_ye_comeBack_13 : decode prog_11_method_11_code 13 = .ok (.getfield 20, 3) := by decide +kernel
theorem d_ye_comeBack_16 : decode prog_11_method_11_code 16 = .ok (.iload 5, 2) := by decide +kernel
theorem d_ye_comeBack_18 : decode prog_11_method_11_code 18 = .ok (.iaload, 1) := by decide +kernel
theorem d_ye_comeBack_19 : decode prog_11_method_11_code 19 = .ok (.iconst (-1), 1) := by decide +kernel
theorem d_ye_comeBack_20 : decode prog_11_method_11_code 20 = .ok (.if_icmp .ne 7, 3) := by decide +kernel
theorem d_ye_comeBack_23 : decode prog_11_method_11_code 23 = .ok (.aconst_null, 1) := by decide +kernel
theorem d_ye_comeBack_24 : decode prog_11_method_11_code 24 = .ok (.goto 15, 3) := by decide +kernel
theorem d_ye_comeBack_27 : decode prog_11_method_11_code 27 = .ok (.aload_n 1, 1) := by decide +kernel
theorem d_ye_comeBack_28 : decode prog_11_method_11_code 28 = .ok (.getfield 79, 3) := by decide +kernel
theorem d_ye_comeBack_31 : decode prog_11_method_11_code 31 = .ok (.aload_n 0, 1) := by decide +kernel
theorem d_ye_comeBack_32 : decode prog_11_method_11_code 32 = .ok (.getfield 20, 3) := by decide +kernel
theorem d_ye_comeBack_35 : decode prog_11_method_11_code 35 = .ok (.iload 5, 2) := by decide +kernel
theorem d_ye_comeBack_37 : decode prog_11_method_11_code 37 = .ok (.iaload, 1) := by decide +kernel
theorem d_ye_comeBack_38 : decode prog_11_method_11_code 38 = .ok (.aaload, 1) := by decide +kernel
theorem d_ye_comeBack_39 : decode prog_11_method_11_code 39 = .ok (.astore 6, 2) := by decide +kernel
theorem d_ye_comeBack_41 : decode prog_11_method_11_code 41 = .ok (.aload 6, 2) := by decide +kernel
theorem d_ye_comeBack_43 : decode prog_11_method_11_code 43 = .ok (.ifnull 131, 3) := by decide +kernel
theorem d_ye_comeBack_46 : decode prog_11_method_11_code 46 = .ok (.aload 6, 2) := by decide +kernel
theorem d_ye_comeBack_48 : decode prog_11_method_11_code 48 = .ok (.getfield 104, 3) := by decide +kernel
theorem d_ye_comeBack_51 : decode prog_11_method_11_code 51 = .ok (.aload 6, 2) := by decide +kernel
theorem d_ye_comeBack_53 : decode prog_11_method_11_code 53 = .ok (.getfield 115, 3) := by decide +kernel
theorem d_ye_comeBack_56 : decode prog_11_method_11_code 56 = .ok (.iadd, 1) := by decide +kernel
theorem d_ye_comeBack_57 : decode prog_11_method_11_code 57 = .ok (.iconst 1, 1) := by decide +kernel
theorem d_ye_comeBack_58 : decode prog_11_method_11_code 58 = .ok (.isub, 1) := by decide +kernel
theorem d_ye_comeBack_59 : decode prog_11_method_11_code 59 = .ok (.iload_n 2, 1) := by decide +kernel
theorem d_ye_comeBack_60 : decode prog_11_method_11_code 60 = .ok (.if_icmp .ne 114, 3) := by decide +kernel
theorem d_ye_comeBack_63 : decode prog_11_method_11_code 63 = .ok (.aload_n 0, 1) := by decide +kernel
theorem d_ye_comeBack_64 : decode prog_11_method_11_code 64 = .ok (.getfield 20, 3) := by decide +kernel
theorem d_ye_comeBack_67 : decode prog_11_method_11_code 67 = .ok (.iload 5, 2) := by decide +kernel
theorem d_ye_comeBack_69 : decode prog_11_method_11_code 69 = .ok (.iconst (-1), 1) := by decide +kernel
theorem d_ye_comeBack_70 : decode prog_11_method_11_code 70 = .ok (.iastore, 1) := by decide +kernel
theorem d_ye_comeBack_71 : decode prog_11_method_11_code 71 = .ok (.aload 6, 2) := by decide +kernel
theorem d_ye_comeBack_73 : decode prog_11_method_11_code 73 = .ok (.aload_n 0, 1) := by decide +kernel
theorem d_ye_comeBack_74 : decode prog_11_method_11_code 74 = .ok (.getfield 11, 3) := by decide +kernel
theorem d_ye_comeBack_77 : decode prog_11_method_11_code 77 = .ok (.iload 5, 2) := by decide +kernel
theorem d_ye_comeBack_79 : decode prog_11_method_11_code 79 = .ok (.aaload, 1) := by decide +kernel
theorem d_ye_comeBack_80 : decode prog_11_method_11_code 80 = .ok (.getfield 118, 3) := by decide +kernel
theorem d_ye_comeBack_83 : decode prog_11_method_11_code 83 = .ok (.aload_n 0, 1) := by decide +kernel
theorem d_ye_comeBack_84 : decode prog_11_method_11_code 84 = .ok (.getfield 17, 3) := by decide +kernel
theorem d_ye_comeBack_87 : decode prog_11_method_11_code 87 = .ok (.iload 5, 2) := by decide +kernel
theorem d_ye_comeBack_89 : decode prog_11_method_11_code 89 = .ok (.aaload, 1) := by decide +kernel
theorem d_ye_comeBack_90 : decode prog_11_method_11_code 90 = .ok (.getfield 118, 3) := by decide +kernel
theorem d_ye_comeBack_93 : decode prog_11_method_11_code 93 = .ok (.isub, 1) := by decide +kernel
theorem d_ye_comeBack_94 : decode prog_11_method_11_code 94 = .ok (.putfield 92, 3) := by decide +kernel
theorem d_ye_comeBack_97 : decode prog_11_method_11_code 97 = .ok (.aload 4, 2) := by decide +kernel
theorem d_ye_comeBack_99 : decode prog_11_method_11_code 99 = .ok (.aload_n 0, 1) := by decide +kernel
theorem d_ye_comeBack_100 : decode prog_11_method_11_code 100 = .ok (.getfield 17, 3) := by decide +kernel
theorem d_ye_comeBack_103 : decode prog_11_method_11_code 103 = .ok (.iload 5, 2) := by decide +kernel
theorem d_ye_comeBack_105 : decode prog_11_method_11_code 105 = .ok (.aaload, 1) := by decide +kernel
theorem d_ye_comeBack_106 : decode prog_11_method_11_code 106 = .ok (.aload_n 0, 1) := by decide +kernel
theorem d_ye_comeBack_107 : decode prog_11_method_11_code 107 = .ok (.getfield 11, 3) := by decide +kernel
theorem d_ye_comeBack_110 : decode prog_11_method_11_code 110 = .ok (.iload 5, 2) := by decide +kernel
theorem d_ye_comeBack_112 : decode prog_11_method_11_code 112 = .ok (.aaload, 1) := by decide +kernel
theorem d_ye_comeBack_113 : decode prog_11_method_11_code 113 = .ok (.invokevirtual 121, 3) := by decide +kernel
theorem d_ye_comeBack_116 : decode prog_11_method_11_code 116 = .ok (.istore 7, 2) := by decide +kernel
theorem d_ye_comeBack_118 : decode prog_11_method_11_code 118 = .ok (.aload 6, 2) := by decide +kernel
theorem d_ye_comeBack_120 : decode prog_11_method_11_code 120 = .ok (.iload 7, 2) := by decide +kernel
theorem d_ye_comeBack_122 : decode prog_11_method_11_code 122 = .ok (.iload_n 3, 1) := by decide +kernel
theorem d_ye_comeBack_123 : decode prog_11_method_11_code 123 = .ok (.if_icmp .ge 22, 3) := by decide +kernel
theorem d_ye_comeBack_126 : decode prog_11_method_11_code 126 = .ok (.iload 7, 2) := by decide +kernel
theorem d_ye_comeBack_128 : decode prog_11_method_11_code 128 = .ok (.aload_n 0, 1) := by decide +kernel
theorem d_ye_comeBack_129 : decode prog_11_method_11_code 129 = .ok (.getfield 17, 3) := by decide +kernel
theorem d_ye_comeBack_132 : decode prog_11_method_11_code 132 = .ok (.iload 5, 2) := by decide +kernel
theorem d_ye_comeBack_134 : decode prog_11_method_11_code 134 = .ok (.aaload, 1) := by decide +kernel
theorem d_ye_comeBack_135 : decode prog_11_method_11_code 135 = .ok (.getfield 118, 3) := by decide +kernel
theorem d_ye_comeBack_138 : decode prog_11_method_11_code 138 = .ok (.if_icmp .ge 7, 3) := by decide +kernel
theorem d_ye_comeBack_141 : decode prog_11_method_11_code 141 = .ok (.iconst 1, 1) := by decide +kernel
theorem d_ye_comeBack_142 : decode prog_11_method_11_code 142 = .ok (.goto 4, 3) := by decide +kernel
theorem d_ye_comeBack_145 : decode prog_11_method_11_code 145 = .ok (.iconst 0, 1) := by decide +kernel
theorem d_ye_comeBack_146 : decode prog_11_method_11_code 146 = .ok (.putfield 89, 3) := by decide +kernel
theorem d_ye_comeBack_149 : decode prog_11_method_11_code 149 = .ok (.aload 6, 2) := by decide +kernel
theorem d_ye_comeBack_151 : decode prog_11_method_11_code 151 = .ok (.getfield 89, 3) := by decide +kernel
theorem d_ye_comeBack_154 : decode prog_11_method_11_code 154 = .ok (.ifCond .eq 20, 3) := by decide +kernel
theorem d_ye_comeBack_157 : decode prog_11_method_11_code 157 = .ok (.aload_n 0, 1) := by decide +kernel
theorem d_ye_comeBack_158 : decode prog_11_method_11_code 158 = .ok (.getfield 11, 3) := by decide +kernel
theorem d_ye_comeBack_161 : decode prog_11_method_11_code 161 = .ok (.iload 5, 2) := by decide +kernel
theorem d_ye_comeBack_163 : decode prog_11_method_11_code 163 = .ok (.aaload, 1) := by decide +kernel
theorem d_ye_comeBack_164 : decode prog_11_method_11_code 164 = .ok (.aload_n 0, 1) := by decide +kernel
theorem d_ye_comeBack_165 : decode prog_11_method_11_code 165 = .ok (.getfield 17, 3) := by decide +kernel
theorem d_ye_comeBack_168 : decode prog_11_method_11_code 168 = .ok (.iload 5, 2) := by decide +kernel
theorem d_ye_comeBack_170 : decode prog_11_method_11_code 170 = .ok (.aaload, 1) := by decide +kernel
theorem d_ye_comeBack_171 : decode prog_11_method_11_code 171 = .ok (.invokevirtual 72, 3) := by decide +kernel
theorem d_ye_comeBack_174 : decode prog_11_method_11_code 174 = .ok (.iinc 5 1, 3) := by decide +kernel
theorem d_ye_comeBack_177 : decode prog_11_method_11_code 177 = .ok (.goto (-174), 3) := by decide +kernel
theorem d_ye_comeBack_180 : decode prog_11_method_11_code 180 = .ok (.return_, 1) := by decide +kernel
theorem d_ye_keep_0 : decode prog_11_method_12_code 0 = .ok (.iconst 0, 1) := by decide +kernel
theorem d_ye_keep_1 : decode prog_11_method_12_code 1 = .ok (.istore_n 3, 1) := by decide +kernel
theorem d_ye_keep_2 : decode prog_11_method_12_code 2 = .ok (.iload_n 3, 1) := by decide +kernel
theorem d_ye_keep_3 : decode prog_11_method_12_code 3 = .ok (.aload_n 1, 1) := by decide +kernel
theorem d_ye_keep_4 : decode prog_11_method_12_code 4 = .ok (.getfield 60, 3) := by decide +kernel
theorem d_ye_keep_7 : decode prog_11_method_12_code 7 = .ok (.if_icmp .ge 99, 3) := by decide +kernel
theorem d_ye_keep_10 : decode prog_11_method_12_code 10 = .ok (.iload_n 2, 1) := by decide +kernel
theorem d_ye_keep_11 : decode prog_11_method_12_code 11 = .ok (.bipush 6, 2) := by decide +kernel
theorem d_ye_keep_13 : decode prog_11_method_12_code 13 = .ok (.imul, 1) := by decide +kernel
theorem d_ye_keep_14 : decode prog_11_method_12_code 14 = .ok (.iload_n 3, 1) := by decide +kernel
theorem d_ye_keep_15 : decode prog_11_method_12_code 15 = .ok (.iadd, 1) := by decide +kernel
theorem d_ye_keep_16 : decode prog_11_method_12_code 16 = .ok (.istore 4, 2) := by decide +kernel
theorem d_ye_keep_18 : decode prog_11_method_12_code 18 = .ok (.aload_n 0, 1) := by decide +kernel
theorem d_ye_keep_19 : decode prog_11_method_12_code 19 = .ok (.getfield 32, 3) := by decide +kernel
theorem d_ye_keep_22 : decode prog_11_method_12_code 22 = .ok (.iload 4, 2) := by decide +kernel
theorem d_ye_keep_24 : decode prog_11_method_12_code 24 = .ok (.aload_n 0, 1) := by decide +kernel
theorem d_ye_keep_25 : decode prog_11_method_12_code 25 = .ok (.getfield 11, 3) := by decide +kernel
theorem d_ye_keep_28 : decode prog_11_method_12_code 28 = .ok (.iload_n 3, 1) := by decide +kernel
theorem d_ye_keep_29 : decode prog_11_method_12_code 29 = .ok (.aaload, 1) := by decide +kernel
theorem d_ye_keep_30 : decode prog_11_method_12_code 30 = .ok (.getfield 118, 3) := by decide +kernel
theorem d_ye_keep_33 : decode prog_11_method_12_code 33 = .ok (.iastore, 1) := by decide +kernel
theorem d_ye_keep_34 : decode prog_11_method_12_code 34 = .ok (.aload_n 0, 1) := by decide +kernel
theorem d_ye_keep_35 : decode prog_11_method_12_code 35 = .ok (.getfield 35, 3) := by decide +kernel
theorem d_ye_keep_38 : decode prog_11_method_12_code 38 = .ok (.iload 4, 2) := by decide +kernel
theorem d_ye_keep_40 : decode prog_11_method_12_code 40 = .ok (.aload_n 0, 1) := by decide +kernel
theorem d_ye_keep_41 : decode prog_11_method_12_code 41 = .ok (.getfield 20, 3) := by decide +kernel
theorem d_ye_keep_44 : decode prog_11_method_12_code 44 = .ok (.iload_n 3, 1) := by decide +kernel
theorem d_ye_keep_45 : decode prog_11_method_12_code 45 = .ok (.iaload, 1) := by decide +kernel
theorem d_ye_keep_46 : decode prog_11_method_12_code 46 = .ok (.iconst (-1), 1) := by decide +kernel
theorem d_ye_keep_47 : decode prog_11_method_12_code 47 = .ok (.if_icmp .ne 7, 3) := by decide +kernel
theorem d_ye_keep_50 : decode prog_11_method_12_code 50 = .ok (.iconst (-1), 1) := by decide +kernel
theorem d_ye_keep_51 : decode prog_11_method_12_code 51 = .ok (.goto 17, 3) := by decide +kernel
theorem d_ye_keep_54 : decode prog_11_method_12_code 54 = .ok (.aload_n 1, 1) := by decide +kernel
theorem d_ye_keep_55 : decode prog_11_method_12_code 55 = .ok (.getfield 79, 3) := by decide +kernel
theorem d_ye_keep_58 : decode prog_11_method_12_code 58 = .ok (.aload_n 0, 1) := by decide +kernel
theorem d_ye_keep_59 : decode prog_11_method_12_code 59 = .ok (.getfield 20, 3) := by decide +kernel
theorem d_ye_keep_62 : decode prog_11_method_12_code 62 = .ok (.iload_n 3, 1) := by decide +kernel
theorem d_ye_keep_63 : decode prog_11_method_12_code 63 = .ok (.iaload, 1) := by decide +kernel
theorem d_ye_keep_64 : decode prog_11_method_12_code 64 = .ok (.aaload, 1) := by decide +kernel
theorem d_ye_keep_65 : decode prog_11_method_12_code 65 = .ok (.getfield 98, 3) := by decide +kernel
theorem d_ye_keep_68 : decode prog_11_method_12_code 68 = .ok (.iastore, 1) := by decide +kernel
theorem d_ye_keep_69 : decode prog_11_method_12_code 69 = .ok (.aload_n 0, 1) := by decide +kernel
theorem d_ye_keep_70 : decode prog_11_method_12_code 70 = .ok (.getfield 11, 3) := by decide +kernel
theorem d_ye_keep_73 : decode prog_11_method_12_code 73 = .ok (.iload_n 3, 1) := by decide +kernel
theorem d_ye_keep_74 : decode prog_11_method_12_code 74 = .ok (.aaload, 1) := by decide +kernel
theorem d_ye_keep_75 : decode prog_11_method_12_code 75 = .ok (.getfield 127, 3) := by decide +kernel
theorem d_ye_keep_78 : decode prog_11_method_12_code 78 = .ok (.iconst 0, 1) := by decide +kernel
theorem d_ye_keep_79 : decode prog_11_method_12_code 79 = .ok (.aload_n 0, 1) := by decide +kernel
theorem d_ye_keep_80 : decode prog_11_method_12_code 80 = .ok (.getfield 29, 3) := by decide +kernel
theorem d_ye_keep_83 : decode prog_11_method_12_code 83 = .ok (.iload 4, 2) := by decide +kernel
theorem d_ye_keep_85 : decode prog_11_method_12_code 85 = .ok (.bipush 40, 2) := by decide +kernel
theorem d_ye_keep_87 : decode prog_11_method_12_code 87 = .ok (.imul, 1) := by decide +kernel
theorem d_ye_keep_88 : decode prog_11_method_12_code 88 = .ok (.aload_n 0, 1) := by decide +kernel
theorem d_ye_keep_89 : decode prog_11_method_12_code 89 = .ok (.getfield 11, 3) := by decide +kernel
theorem d_ye_keep_92 : decode prog_11_method_12_code 92 = .ok (.iload_n 3, 1) := by decide +kernel
theorem d_ye_keep_93 : decode prog_11_method_12_code 93 = .ok (.aaload, 1) := by decide +kernel
theorem d_ye_keep_94 : decode prog_11_method_12_code 94 = .ok (.getfield 118, 3) := by decide +kernel
theorem d_ye_keep_97 : decode prog_11_method_12_code 97 = .ok (.invokestatic 130, 3) := by decide +kernel
theorem d_ye_keep_100 : decode prog_11_method_12_code 100 = .ok (.iinc 3 1, 3) := by decide +kernel
theorem d_ye_keep_103 : decode prog_11_method_12_code 103 = .ok (.goto (-101), 3) := by decide +kernel
theorem d_ye_keep_106 : decode prog_11_method_12_code 106 = .ok (.return_, 1) := by decide +kernel
