theorem d_mo_lend_0 : decode prog_13_method_61_code 0 = .ok (.aload_n 0, 1) := by decide +kernel
theorem d_mo_lend_1 : decode prog_13_method_61_code 1 = .ok (.invokevirtual 137, 3) := by decide +kernel
theorem d_mo_lend_4 : decode prog_13_method_61_code 4 = .ok (.aload_n 0, 1) := by decide +kernel
theorem d_mo_lend_5 : decode prog_13_method_61_code 5 = .ok (.iload_n 1, 1) := by decide +kernel
theorem d_mo_lend_6 : decode prog_13_method_61_code 6 = .ok (.invokevirtual 140, 3) := by decide +kernel
theorem d_mo_lend_9 : decode prog_13_method_61_code 9 = .ok (.ifCond .eq 39, 3) := by decide +kernel
theorem d_mo_lend_12 : decode prog_13_method_61_code 12 = .ok (.iload_n 2, 1) := by decide +kernel
theorem d_mo_lend_13 : decode prog_13_method_61_code 13 = .ok (.i2l, 1) := by decide +kernel
theorem d_mo_lend_14 : decode prog_13_method_61_code 14 = .ok (.lconst 0, 1) := by decide +kernel
theorem d_mo_lend_15 : decode prog_13_method_61_code 15 = .ok (.ldc2_w 226, 3) := by decide +kernel
theorem d_mo_lend_18 : decode prog_13_method_61_code 18 = .ok (.invokestatic 79, 3) := by decide +kernel
theorem d_mo_lend_21 : decode prog_13_method_61_code 21 = .ok (.ifCond .eq 27, 3) := by decide +kernel
theorem d_mo_lend_24 : decode prog_13_method_61_code 24 = .ok (.iload_n 3, 1) := by decide +kernel
theorem d_mo_lend_25 : decode prog_13_method_61_code 25 = .ok (.i2l, 1) := by decide +kernel
theorem d_mo_lend_26 : decode prog_13_method_61_code 26 = .ok (.ldc2_w 143, 3) := by decide +kernel
theorem d_mo_lend_29 : decode prog_13_method_61_code 29 = .ok (.ldc2_w 92, 3) := by decide +kernel
theorem d_mo_lend_32 : decode prog_13_method_61_code 32 = .ok (.invokestatic 79, 3) := by decide +kernel
theorem d_mo_lend_35 : decode prog_13_method_61_code 35 = .ok (.ifCond .eq 13, 3) := by decide +kernel
theorem d_mo_lend_38 : decode prog_13_method_61_code 38 = .ok (.aload_n 0, 1) := by decide +kernel
theorem d_mo_lend_39 : decode prog_13_method_61_code 39 = .ok (.iload_n 1, 1) := by decide +kernel
theorem d_mo_lend_40 : decode prog_13_method_61_code 40 = .ok (.iload_n 2, 1) := by decide +kernel
theorem d_mo_lend_41 : decode prog_13_method_61_code 41 = .ok (.iload_n 3, 1) := by decide +kernel
theorem d_mo_lend_42 : decode prog_13_method_61_code 42 = .ok (.invokevirtual 228, 3) := by decide +kernel
theorem d_mo_lend_45 : decode prog_13_method_61_code 45 = .ok (.goto 5, 3) := by decide +kernel
theorem d_mo_lend_48 : decode prog_13_method_61_code 48 = .ok (.bipush (-2), 2) := by decide +kernel
theorem d_mo_lend_50 : decode prog_13_method_61_code 50 = .ok (.ireturn, 1) := by decide +kernel
theorem d_mo_longestOf_0 : decode prog_13_method_62_code 0 = .ok (.iconst (-1), 1) := by decide +kernel
theorem d_mo_longestOf_1 : decode prog_13_method_62_code 1 = .ok (.istore 4, 2) := by decide +kernel
theorem d_mo_longestOf_3 : decode prog_13_method_62_code 3 = .ok (.iconst (-1), 1) := by decide +kernel
theorem d_mo_longestOf_4 : decode prog_13_method_62_code 4 = .ok (.istore 5, 2) := by decide +kernel
theorem d_mo_longestOf_6 : decode prog_13_method_62_code 6 = .ok (.iconst 0, 1) := by decide +kernel
theorem d_mo_longestOf_7 : decode prog_13_method_62_code 7 = .ok (.istore 6, 2) := by decide +kernel
theorem d_mo_longestOf_9 : decode prog_13_method_62_code 9 = .ok (.iload 6, 2) := by decide +kernel
theorem d_mo_longestOf_11 : decode prog_13_method_62_code 11 = .ok (.aload_n 0, 1) := by decide +kernel
theorem d_mo_longestOf_12 : decode prog_13_method_62_code 12 = .ok (.iload_n 2, 1) := by decide +kernel
theorem d_mo_longestOf_13 : decode prog_13_method_62_code 13 = .ok (.invokevirtual 216, 3) := by decide +kernel
theorem d_mo_longestOf_16 : decode prog_13_method_62_code 16 = .ok (.if_icmp .ge 52, 3) := by decide +kernel
theorem d_mo_longestOf_19 : decode prog_13_method_62_code 19 = .ok (.aload_n 0, 1) := by decide +kernel
theorem d_mo_longestOf_20 : decode prog_13_method_62_code 20 = .ok (.iload_n 1, 1) := by decide +kernel
theorem d_mo_longestOf_21 : decode prog_13_method_62_code 21 = .ok (.iload 6, 2) := by decide +kernel
theorem d_mo_longestOf_23 : decode prog_13_method_62_code 23 = .ok (.iload_n 2, 1) := by decide +kernel
theorem d_mo_longestOf_24 : decode prog_13_method_62_code 24 = .ok (.invokevirtual 219, 3) := by decide +kernel
theorem d_mo_longestOf_27 : decode prog_13_method_62_code 27 = .ok (.aload_n 0, 1) := by decide +kernel
theorem d_mo_longestOf_28 : decode prog_13_method_62_code 28 = .ok (.getfield 43, 3) := by decide +kernel
theorem d_mo_longestOf_31 : decode prog_13_method_62_code 31 = .ok (.bipush 6, 2) := by decide +kernel
theorem d_mo_longestOf_33 : decode prog_13_method_62_code 33 = .ok (.iaload, 1) := by decide +kernel
theorem d_mo_longestOf_34 : decode prog_13_method_62_code 34 = .ok (.iload 5, 2) := by decide +kernel
theorem d_mo_longestOf_36 : decode prog_13_method_62_code 36 = .ok (.if_icmp .le 8, 3) := by decide +kernel
theorem d_mo_longestOf_39 : decode prog_13_method_62_code 39 = .ok (.iload 6, 2) := by decide +kernel
theorem d_mo_longestOf_41 : decode prog_13_method_62_code 41 = .ok (.goto 5, 3) := by decide +kernel
theorem d_mo_longestOf_44 : decode prog_13_method_62_code 44 = .ok (.iload 4, 2) := by decide +kernel
theorem d_mo_longestOf_46 : decode prog_13_method_62_code 46 = .ok (.istore 4, 2) := by decide +kernel
theorem d_mo_longestOf_48 : decode prog_13_method_62_code 48 = .ok (.aload_n 0, 1) := by decide +kernel
theorem d_mo_longestOf_49 : decode prog_13_method_62_code 49 = .ok (.getfield 43, 3) := by decide +kernel
theorem d_mo_longestOf_52 : decode prog_13_method_62_code 52 = .ok (.bipush 6, 2) := by decide +kernel
theorem d_mo_longestOf_54 : decode prog_13_method_62_code 54 = .ok (.iaload, 1) := by decide +kernel
theorem d_mo_longestOf_55 : decode prog_13_method_62_code 55 = .ok (.iload 5, 2) := by decide +kernel
theorem d_mo_longestOf_57 : decode prog_13_method_62_code 57 = .ok (.invokestatic 168, 3) := by decide +kernel
theorem d_mo_longestOf_60 : decode prog_13_method_62_code 60 = .ok (.istore 5, 2) := by decide +kernel
theorem d_mo_longestOf_62 : decode prog_13_method_62_code 62 = .ok (.iinc 6 1, 3) := by decide +kernel
theorem d_mo_longestOf_65 : decode prog_13_method_62_code 65 = .ok (.goto (-56), 3) := by decide +kernel
theorem d_mo_longestOf_68 : decode prog_13_method_62_code 68 = .ok (.iload 4, 2) := by decide +kernel
theorem d_mo_longestOf_70 : decode prog_13_method_62_code 70 = .ok (.iconst (-1), 1) := by decide +kernel
theorem d_mo_longestOf_71 : decode prog_13_method_62_code 71 = .ok (.if_icmp .ne 7, 3) := by decide +kernel
theorem d_mo_longestOf_74 : decode prog_13_method_62_code 74 = .ok (.iconst (-1), 1) := by decide +kernel
theorem d_mo_longestOf_75 : decode prog_13_method_62_code 75 = .ok (.goto 21, 3) := by decide +kernel
theorem d_mo_longestOf_78 : decode prog_13_method_62_code 78 = .ok (.iload_n 3, 1) := by decide +kernel
theorem d_mo_longestOf_79 : decode prog_13_method_62_code 79 = .ok (.iconst (-1), 1) := by decide +kernel
theorem d_mo_longestOf_80 : decode prog_13_method_62_code 80 = .ok (.if_icmp .ne 8, 3) := by decide +kernel
theorem d_mo_longestOf_83 : decode prog_13_method_62_code 83 = .ok (.iload 5, 2) := by decide +kernel
theorem d_mo_longestOf_85 : decode prog_13_method_62_code 85 = .ok (.goto 11, 3) := by decide +kernel
theorem d_mo_longestOf_88 : decode prog_13_method_62_code 88 = .ok (.aload_n 0, 1) := by decide +kernel
theorem d_mo_longestOf_89 : decode prog_13_method_62_code 89 = .ok (.iload 4, 2) := by decide +kernel
theorem d_mo_longestOf_91 : decode prog_13_method_62_code 91 = .ok (.iload_n 2, 1) := by decide +kernel
theorem d_mo_longestOf_92 : decode prog_13_method_62_code 92 = .ok (.iload_n 3, 1) := by decide +kernel
theorem d_mo_longestOf_93 : decode prog_13_method_62_code 93 = .ok (.invokevirtual 213, 3) := by decide +kernel
theorem d_mo_longestOf_96 : decode prog_13_method_62_code 96 = .ok (.ireturn, 1) := by decide +kernel
theorem d_mo_longest_0 : decode prog_13_method_63_code 0 = .ok (.aload_n 0, 1) := by decide +kernel
theorem d_mo_longest_1 : decode prog_13_method_63_code 1 = .ok (.invokevirtual 137, 3) := by decide +kernel
theorem d_mo_longest_4 : decode prog_13_method_63_code 4 = .ok (.aload_n 0, 1) := by decide +kernel
theorem d_mo_longest_5 : decode prog_13_method_63_code 5 = .ok (.iload_n 1, 1) := by decide +kernel
theorem d_mo_longest_6 : decode prog_13_method_63_code 6 = .ok (.invokevirtual 140, 3) := by decide +kernel
theorem d_mo_longest_9 : decode prog_13_method_63_code 9 = .ok (.ifCond .eq 40, 3) := by decide +kernel
theorem d_mo_longest_12 : decode prog_13_method_63_code 12 = .ok (.iload_n 2, 1) := by decide +kernel
theorem d_mo_longest_13 : decode prog_13_method_63_code 13 = .ok (.i2l, 1) := by decide +kernel
theorem d_mo_longest_14 : decode prog_13_method_63_code 14 = .ok (.lconst 1, 1) := by decide +kernel
theorem d_mo_longest_15 : decode prog_13_method_63_code 15 = .ok (.ldc2_w 86, 3) := by decide +kernel
theorem d_mo_longest_18 : decode prog_13_method_63_code 18 = .ok (.invokestatic 79, 3) := by decide +kernel
theorem d_mo_longest_21 : decode prog_13_method_63_code 21 = .ok (.ifCond .eq 28, 3) := by decide +kernel
theorem d_mo_longest_24 : decode prog_13_method_63_code 24 = .ok (.iload_n 3, 1) := by decide +kernel
theorem d_mo_longest_25 : decode prog_13_method_63_code 25 = .ok (.i2l, 1) := by decide +kernel
theorem d_mo_longest_26 : decode prog_13_method_63_code 26 = .ok (.ldc2_w 143, 3) := by decide +kernel
theorem d_mo_longest_29 : decode prog_13_method_63_code 29 = .ok (.iload_n 2, 1) := by decide +kernel
theorem d_mo_longest_30 : decode prog_13_method_63_code 30 = .ok (.iconst 1, 1) := by decide +kernel
theorem d_mo_longest_31 : decode prog_13_method_63_code 31 = .ok (.isub, 1) := by decide +kernel
theorem d_mo_longest_32 : decode prog_13_method_63_code 32 = .ok (.i2l, 1) := by decide +kernel
theorem d_mo_longest_33 : decode prog_13_method_63_code 33 = .ok (.invokestatic 79, 3) := by decide +kernel
theorem d_mo_longest_36 : decode prog_13_method_63_code 36 = .ok (.ifCond .eq 13, 3) := by decide +kernel
theorem d_mo_longest_39 : decode prog_13_method_63_code 39 = .ok (.aload_n 0, 1) := by decide +kernel
theorem d_mo_longest_40 : decode prog_13_method_63_code 40 = .ok (.iload_n 1, 1) := by decide +kernel
theorem d_mo_longest_41 : decode prog_13_method_63_code 41 = .ok (.iload_n 2, 1) := by decide +kernel
theorem d_mo_longest_42 : decode prog_13_method_63_code 42 = .ok (.iload_n 3, 1) := by decide +kernel
theorem d_mo_longest_43 : decode prog_13_method_63_code 43 = .ok (.invokevirtual 231, 3) := by decide +kernel
theorem d_mo_longest_46 : decode prog_13_method_63_code 46 = .ok (.goto 5, 3) := by decide +kernel
theorem d_mo_longest_49 : decode prog_13_method_63_code 49 = .ok (.bipush (-2), 2) := by decide +kernel
theorem d_mo_longest_51 : decode prog_13_method_63_code 51 = .ok (.ireturn, 1) := by decide +kernel
theorem d_mo_isNow_0 : decode prog_13_method_64_code 0 = .ok (.aload_n 0, 1) := by decide +kernel
theorem d_mo_isNow_1 : decode prog_13_method_64_code 1 = .ok (.getfield 43, 3) := by decide +kernel
theorem d_mo_isNow_4 : decode prog_13_method_64_code 4 = .ok (.bipush 6, 2) := by decide +kernel
theorem d_mo_isNow_6 : decode prog_13_method_64_code 6 = .ok (.iaload, 1) := by decide +kernel
theorem d_mo_isNow_7 : decode prog_13_method_64_code 7 = .ok (.aload_n 0, 1) := by decide +kernel
theorem d_mo_isNow_8 : decode prog_13_method_64_code 8 = .ok (.getfield 31, 3) := by decide +kernel
theorem d_mo_isNow_11 : decode prog_13_method_64_code 11 = .ok (.iload_n 1, 1) := by decide +kernel
theorem d_mo_isNow_12 : decode prog_13_method_64_code 12 = .ok (.iaload, 1) := by decide +kernel
theorem d_mo_isNow_13 : decode prog_13_method_64_code 13 = .ok (.if_icmp .ne 7, 3) := by decide +kernel
theorem d_mo_isNow_16 : decode prog_13_method_64_code 16 = .ok (.iconst 1, 1) := by decide +kernel
theorem d_mo_isNow_17 : decode prog_13_method_64_code 17 = .ok (.goto 4, 3) := by decide +kernel
theorem d_mo_isNow_20 : decode prog_13_method_64_code 20 = .ok (.iconst 0, 1) := by decide +kernel
theorem d_mo_isNow_21 : decode prog_13_method_64_code 21 = .ok (.istore_n 2, 1) := by decide +kernel
theorem d_mo_isNow_22 : decode prog_13_method_64_code 22 = .ok (.iconst 0, 1) := by decide +kernel
theorem d_mo_isNow_23 : decode prog_13_method_64_code 23 = .ok (.istore_n 3, 1) := by decide +kernel
theorem d_mo_isNow_24 : decode prog_13_method_64_code 24 = .ok (.iload_n 3, 1) := by decide +kernel
theorem d_mo_isNow_25 : decode prog_13_method_64_code 25 = .ok (.aload_n 0, 1) := by decide +kernel
theorem d_mo_isNow_26 : decode prog_13_method_64_code 26 = .ok (.getfield 31, 3) := by decide +kernel
theorem d_mo_isNow_29 : decode prog_13_method_64_code 29 = .ok (.iload_n 1, 1) := by decide +kernel
theorem d_mo_isNow_30 : decode prog_13_method_64_code 30 = .ok (.iaload, 1) := by decide +kernel
theorem d_mo_isNow_31 : decode prog_13_method_64_code 31 = .ok (.if_icmp .ge 43, 3) := by decide +kernel
theorem d_mo_isNow_34 : decode prog_13_method_64_code 34 = .ok (.iload_n 2, 1) := by decide +kernel
theorem d_mo_isNow_35 : decode prog_13_method_64_code 35 = .ok (.ifCond .eq 39, 3) := by decide +kernel
theorem d_mo_isNow_38 : decode prog_13_method_64_code 38 = .ok (.aload_n 0, 1) := by decide +kernel
theorem d_mo_isNow_39 : decode prog_13_method_64_code 39 = .ok (.getfield 40, 3) := by decide +kernel
theorem d_mo_isNow_42 : decode prog_13_method_64_code 42 = .ok (.sipush 240, 3) := by decide +kernel
theorem d_mo_isNow_45 : decode prog_13_method_64_code 45 = .ok (.iload_n 3, 1) := by decide +kernel
theorem d_mo_isNow_46 : decode prog_13_method_64_code 46 = .ok (.iadd, 1) := by decide +kernel
theorem d_mo_isNow_47 : decode prog_13_method_64_code 47 = .ok (.iaload, 1) := by decide +kernel
theorem d_mo_isNow_48 : decode prog_13_method_64_code 48 = .ok (.aload_n 0, 1) := by decide +kernel
theorem d_mo_isNow_49 : decode prog_13_method_64_code 49 = .ok (.getfield 28, 3) := by decide +kernel
theorem d_mo_isNow_52 : decode prog_13_method_64_code 52 = .ok (.bipush 40, 2) := by decide +kernel
theorem d_mo_isNow_54 : decode prog_13_method_64_code 54 = .ok (.iload_n 1, 1) := by decide +kernel
theorem d_mo_isNow_55 : decode prog_13_method_64_code 55 = .ok (.imul, 1) := by decide +kernel
theorem d_mo_isNow_56 : decode prog_13_method_64_code 56 = .ok (.iload_n 3, 1) := by decide +kernel
theorem d_mo_isNow_57 : decode prog_13_method_64_code 57 = .ok (.iadd, 1) := by decide +kernel
theorem d_mo_isNow_58 : decode prog_13_method_64_code 58 = .ok (.iaload, 1) := by decide +kernel
theorem d_mo_isNow_59 : decode prog_13_method_64_code 59 = .ok (.if_icmp .ne 7, 3) := by decide +kernel
theorem d_mo_isNow_62 : decode prog_13_method_64_code 62 = .ok (.iconst 1, 1) := by decide +kernel
theorem d_mo_isNow_63 : decode prog_13_method_64_code 63 = .ok (.goto 4, 3) := by decide +kernel
theorem d_mo_isNow_66 : decode prog_13_method_64_code 66 = .ok (.iconst 0, 1) := by decide +kernel
theorem d_mo_isNow_67 : decode prog_13_method_64_code 67 = .ok (.istore_n 2, 1) := by decide +kernel
theorem d_mo_isNow_68 : decode prog_13_method_64_code 68 = .ok (.iinc 3 1, 3) := by decide +kernel
theorem d_mo_isNow_71 : decode prog_13_method_64_code 71 = .ok (.goto (-47), 3) := by decide +kernel
theorem d_mo_isNow_74 : decode prog_13_method_64_code 74 = .ok (.iload_n 2, 1) := by decide +kernel
theorem d_mo_isNow_75 : decode prog_13_method_64_code 75 = .ok (.ireturn, 1) := by decide +kernel
theorem d_mo_rowOf_0 : decode prog_13_method_65_code 0 = .ok (.iconst 0, 1) := by decide +kernel
theorem d_mo_rowOf_1 : decode prog_13_method_65_code 1 = .ok (.istore_n 3, 1) := by decide +kernel
theorem d_mo_rowOf_2 : decode prog_13_method_65_code 2 = .ok (.iconst 0, 1) := by decide +kernel
theorem d_mo_rowOf_3 : decode prog_13_method_65_code 3 = .ok (.istore 4, 2) := by decide +kernel
theorem d_mo_rowOf_5 : decode prog_13_method_65_code 5 = .ok (.iload 4, 2) := by decide +kernel
theorem d_mo_rowOf_7 : decode prog_13_method_65_code 7 = .ok (.iload_n 2, 1) := by decide +kernel
theorem d_mo_rowOf_8 : decode prog_13_method_65_code 8 = .ok (.if_icmp .ge 25, 3) := by decide +kernel
theorem d_mo_rowOf_11 : decode prog_13_method_65_code 11 = .ok (.bipush 7, 2) := by decide +kernel
theorem d_mo_rowOf_13 : decode prog_13_method_65_code 13 = .ok (.iload_n 3, 1) := by decide +kernel
theorem d_mo_rowOf_14 : decode prog_13_method_65_code 14 = .ok (.imul, 1) := by decide +kernel
theorem d_mo_rowOf_15 : decode prog_13_method_65_code 15 = .ok (.aload_n 0, 1) := by decide +kernel
theorem d_mo_rowOf_16 : decode prog_13_method_65_code 16 = .ok (.iload_n 1, 1) := by decide +kernel
theorem d_mo_rowOf_17 : decode prog_13_method_65_code 17 = .ok (.iload_n 2, 1) := by decide +kernel
theorem d_mo_rowOf_18 : decode prog_13_method_65_code 18 = .ok (.iload 4, 2) := by decide +kernel
theorem d_mo_rowOf_20 : decode prog_13_method_65_code 20 = .ok (.invokevirtual 213, 3) := by decide +kernel
theorem d_mo_rowOf_23 : decode prog_13_method_65_code 23 = .ok (.iadd, 1) := by decide +kernel
theorem d_mo_rowOf_24 : decode prog_13_method_65_code 24 = .ok (.iconst 1, 1) := by decide +kernel
theorem d_mo_rowOf_25 : decode prog_13_method_65_code 25 = .ok (.iadd, 1) := by decide +kernel
theorem d_mo_rowOf_26 : decode prog_13_method_65_code 26 = .ok (.istore_n 3, 1) := by decide +kernel
theorem d_mo_rowOf_27 : decode prog_13_method_65_code 27 = .ok (.iinc 4 1, 3) := by decide +kernel
theorem d_mo_rowOf_30 : decode prog_13_method_65_code 30 = .ok (.goto (-25), 3) := by decide +kernel
theorem d_mo_rowOf_33 : decode prog_13_method_65_code 33 = .ok (.iload_n 3, 1) := by decide +kernel
theorem d_mo_rowOf_34 : decode prog_13_method_65_code 34 = .ok (.ireturn, 1) := by decide +kernel
theorem d_mo_whoOf_0 : decode prog_13_method_66_code 0 = .ok (.iconst 0, 1) := by decide +kernel
theorem d_mo_whoOf_1 : decode prog_13_method_66_code 1 = .ok (.istore 4, 2) := by decide +kernel
theorem d_mo_whoOf_3 : decode prog_13_method_66_code 3 = .ok (.iconst (-1), 1) := by decide +kernel
theorem d_mo_whoOf_4 : decode prog_13_method_66_code 4 = .ok (.istore 5, 2) := by decide +kernel
theorem d_mo_whoOf_6 : decode prog_13_method_66_code 6 = .ok (.iconst 0, 1) := by decide +kernel
theorem d_mo_whoOf_7 : decode prog_13_method_66_code 7 = .ok (.istore 6, 2) := by decide +kernel
theorem d_mo_whoOf_9 : decode prog_13_method_66_code 9 = .ok (.iload 6, 2) := by decide +kernel
theorem d_mo_whoOf_11 : decode prog_13_method_66_code 11 = .ok (.iconst 4, 1) := by decide +kernel
theorem d_mo_whoOf_12 : decode prog_13_method_66_code 12 = .ok (.if_icmp .ge 69, 3) := by decide +kernel
theorem d_mo_whoOf_15 : decode prog_13_method_66_code 15 = .ok (.iconst 0, 1) := by decide +kernel
theorem d_mo_whoOf_16 : decode prog_13_method_66_code 16 = .ok (.istore 7, 2) := by decide +kernel
theorem d_mo_whoOf_18 : decode prog_13_method_66_code 18 = .ok (.iload 7, 2) := by decide +kernel
theorem d_mo_whoOf_20 : decode prog_13_method_66_code 20 = .ok (.aload_n 0, 1) := by decide +kernel
theorem d_mo_whoOf_21 : decode prog_13_method_66_code 21 = .ok (.iload 6, 2) := by decide +kernel
theorem d_mo_whoOf_23 : decode prog_13_method_66_code 23 = .ok (.invokevirtual 216, 3) := by decide +kernel
theorem d_mo_whoOf_26 : decode prog_13_method_66_code 26 = .ok (.if_icmp .ge 49, 3) := by decide +kernel
theorem d_mo_whoOf_29 : decode prog_13_method_66_code 29 = .ok (.aload_n 0, 1) := by decide +kernel
theorem d_mo_whoOf_30 : decode prog_13_method_66_code 30 = .ok (.iload_n 1, 1) := by decide +kernel
theorem d_mo_whoOf_31 : decode prog_13_method_66_code 31 = .ok (.iload 7, 2) := by decide +kernel
theorem d_mo_whoOf_33 : decode prog_13_method_66_code 33 = .ok (.iload 6, 2) := by decide +kernel
theorem d_mo_whoOf_35 : decode prog_13_method_66_code 35 = .ok (.invokevirtual 219, 3) := by decide +kernel
theorem d_mo_whoOf_38 : decode prog_13_method_66_code 38 = .ok (.aload_n 0, 1) := by decide +kernel
theorem d_mo_whoOf_39 : decode prog_13_method_66_code 39 = .ok (.iload_n 2, 1) := by decide +kernel
theorem d_mo_whoOf_40 : decode prog_13_method_66_code 40 = .ok (.invokevirtual 234, 3) := by decide +kernel
theorem d_mo_whoOf_43 : decode prog_13_method_66_code 43 = .ok (.ifCond .eq 26, 3) := by decide +kernel
theorem d_mo_whoOf_46 : decode prog_13_method_66_code 46 = .ok (.iload 4, 2) := by decide +kernel
theorem d_mo_whoOf_48 : decode prog_13_method_66_code 48 = .ok (.ifCond .ne 14, 3) := by decide +kernel
theorem d_mo_whoOf_51 : decode prog_13_method_66_code 51 = .ok (.aload_n 0, 1) := by decide +kernel
theorem d_mo_whoOf_52 : decode prog_13_method_66_code 52 = .ok (.iload 7, 2) := by decide +kernel
theorem d_mo_whoOf_54 : decode prog_13_method_66_code 54 = .ok (.iload 6, 2) := by decide +kernel
theorem d_mo_whoOf_56 : decode prog_13_method_66_code 56 = .ok (.invokevirtual 237, 3) := by decide +kernel
theorem d_mo_whoOf_59 : decode prog_13_method_66_code 59 = .ok (.goto 5, 3) := by decide +kernel
theorem d_mo_whoOf_62 : decode prog_13_method_66_code 62 = .ok (.iload 5, 2) := by decide +kernel
theorem d_mo_whoOf_64 : decode prog_13_method_66_code 64 = .ok (.istore 5, 2) := by decide +kernel
theorem d_mo_whoOf_66 : decode prog_13_method_66_code 66 = .ok (.iinc 4 1, 3) := by decide +kernel
theorem d_mo_whoOf_69 : decode prog_13_method_66_code 69 = .ok (.iinc 7 1, 3) := by decide +kernel
theorem d_mo_whoOf_72 : decode prog_13_method_66_code 72 = .ok (.goto (-54), 3) := by decide +kernel
theorem d_mo_whoOf_75 : decode prog_13_method_66_code 75 = .ok (.iinc 6 1, 3) := by decide +kernel
theorem d_mo_whoOf_78 : decode prog_13_method_66_code 78 = .ok (.goto (-69), 3) := by decide +kernel
theorem d_mo_whoOf_81 : decode prog_13_method_66_code 81 = .ok (.iload_n 3, 1) := by decide +kernel
theorem d_mo_whoOf_82 : decode prog_13_method_66_code 82 = .ok (.ifCond .ne 8, 3) := by decide +kernel
theorem d_mo_whoOf_85 : decode prog_13_method_66_code 85 = .ok (.iload 4, 2) := by decide +kernel
theorem d_mo_whoOf_87 : decode prog_13_method_66_code 87 = .ok (.goto 5, 3) := by decide +kernel
theorem d_mo_whoOf_90 : decode prog_13_method_66_code 90 = .ok (.iload 5, 2) := by decide +kernel
theorem d_mo_whoOf_92 : decode prog_13_method_66_code 92 = .ok (.ireturn, 1) := by decide +kernel
theorem d_mo_who_0 : decode prog_13_method_67_code 0 = .ok (.aload_n 0, 1) := by decide +kernel
theorem d_mo_who_1 : decode prog_13_method_67_code 1 = .ok (.invokevirtual 137, 3) := by decide +kernel
theorem d_mo_who_4 : decode prog_13_method_67_code 4 = .ok (.aload_n 0, 1) := by decide +kernel
theorem d_mo_who_5 : decode prog_13_method_67_code 5 = .ok (.iload_n 1, 1) := by decide +kernel
theorem d_mo_who_6 : decode prog_13_method_67_code 6 = .ok (.invokevirtual 140, 3) := by decide +kernel
theorem d_mo_who_9 : decode prog_13_method_67_code 9 = .ok (.ifCond .eq 28, 3) := by decide +kernel
theorem d_mo_who_12 : decode prog_13_method_67_code 12 = .ok (.aload_n 0, 1) := by decide +kernel
theorem d_mo_who_13 : decode prog_13_method_67_code 13 = .ok (.iload_n 2, 1) := by decide +kernel
theorem d_mo_who_14 : decode prog_13_method_67_code 14 = .ok (.invokevirtual 140, 3) := by decide +kernel
theorem d_mo_who_17 : decode prog_13_method_67_code 17 = .ok (.ifCond .eq 20, 3) := by decide +kernel
theorem d_mo_who_20 : decode prog_13_method_67_code 20 = .ok (.iload_n 3, 1) := by decide +kernel
theorem d_mo_who_21 : decode prog_13_method_67_code 21 = .ok (.invokestatic 107, 3) := by decide +kernel
theorem d_mo_who_24 : decode prog_13_method_67_code 24 = .ok (.ifCond .eq 13, 3) := by decide +kernel
theorem d_mo_who_27 : decode prog_13_method_67_code 27 = .ok (.aload_n 0, 1) := by decide +kernel
theorem d_mo_who_28 : decode prog_13_method_67_code 28 = .ok (.iload_n 1, 1) := by decide +kernel
theorem d_mo_who_29 : decode prog_13_method_67_code 29 = .ok (.iload_n 2, 1) := by decide +kernel
theorem d_mo_who_30 : decode prog_13_method_67_code 30 = .ok (.iload_n 3, 1) := by decide +kernel
theorem d_mo_who_31 : decode prog_13_method_67_code 31 = .ok (.invokevirtual 240, 3) := by decide +kernel
theorem d_mo_who_34 : decode prog_13_method_67_code 34 = .ok (.goto 5, 3) := by decide +kernel
theorem d_mo_who_37 : decode prog_13_method_67_code 37 = .ok (.bipush (-2), 2) := by decide +kernel
theorem d_mo_who_39 : decode prog_13_method_67_code 39 = .ok (.ireturn, 1) := by decide +kernel
theorem d_mo_commonBoth_0 : decode prog_13_method_68_code 0 = .ok (.aload_n 0, 1) := by decide +kernel
theorem d_mo_commonBoth_1 : decode prog_13_method_68_code 1 = .ok (.aload_n 0, 1) := by decide +kernel
theorem d_mo_commonBoth_2 : decode prog_13_method_68_code 2 = .ok (.getfield 28, 3) := by decide +kernel
theorem d_mo_commonBoth_5 : decode prog_13_method_68_code 5 = .ok (.bipush 40, 2) := by decide +kernel
theorem d_mo_commonBoth_7 : decode prog_13_method_68_code 7 = .ok (.iload_n 1, 1) := by decide +kernel
theorem d_mo_commonBoth_8 : decode prog_13_method_68_code 8 = .ok (.imul, 1) := by decide +kernel
theorem d_mo_commonBoth_9 : decode prog_13_method_68_code 9 = .ok (.aload_n 0, 1) := by decide +kernel
theorem d_mo_commonBoth_10 : decode prog_13_method_68_code 10 = .ok (.getfield 31, 3) := by decide +kernel
theorem d_mo_commonBoth_13 : decode prog_13_method_68_code 13 = .ok (.iload_n 1, 1) := by decide +kernel
theorem d_mo_commonBoth_14 : decode prog_13_method_68_code 14 = .ok (.iaload, 1) := by decide +kernel
theorem d_mo_commonBoth_15 : decode prog_13_method_68_code 15 = .ok (.aload_n 0, 1) := by decide +kernel
theorem d_mo_commonBoth_16 : decode prog_13_method_68_code 16 = .ok (.getfield 28, 3) := by decide +kernel
theorem d_mo_commonBoth_19 : decode prog_13_method_68_code 19 = .ok (.bipush 40, 2) := by decide +kernel
theorem d_mo_commonBoth_21 : decode prog_13_method_68_code 21 = .ok (.iload_n 2, 1) := by decide +kernel
theorem d_mo_commonBoth_22 : decode prog_13_method_68_code 22 = .ok (.imul, 1) := by decide +kernel
theorem d_mo_commonBoth_23 : decode prog_13_method_68_code 23 = .ok (.aload_n 0, 1) := by decide +kernel
theorem d_mo_commonBoth_24 : decode prog_13_method_68_code 24 = .ok (.getfield 31, 3) := by decide +kernel
theorem d_mo_commonBoth_27 : decode prog_13_method_68_code 27 = .ok (.iload_n 2, 1) := by decide +kernel
theorem d_mo_commonBoth_28 : decode prog_13_method_68_code 28 = .ok (.iaload, 1) := by decide +kernel
theorem d_mo_commonBoth_29 : decode prog_13_method_68_code 29 = .ok (.invokevirtual 175, 3) := by decide +kernel
theorem d_mo_commonBoth_32 : decode prog_13_method_68_code 32 = .ok (.ireturn, 1) := by decide +kernel
theorem d_mo_common_0 : decode prog_13_method_69_code 0 = .ok (.aload_n 0, 1) := by decide +kernel
theorem d_mo_common_1 : decode prog_13_method_69_code 1 = .ok (.invokevirtual 137, 3) := by decide +kernel
theorem d_mo_common_4 : decode prog_13_method_69_code 4 = .ok (.aload_n 0, 1) := by decide +kernel
theorem d_mo_common_5 : decode prog_13_method_69_code 5 = .ok (.iload_n 1, 1) := by decide +kernel
theorem d_mo_common_6 : decode prog_13_method_69_code 6 = .ok (.invokevirtual 140, 3) := by decide +kernel
theorem d_mo_common_9 : decode prog_13_method_69_code 9 = .ok (.ifCond .eq 20, 3) := by decide +kernel
theorem d_mo_common_12 : decode prog_13_method_69_code 12 = .ok (.aload_n 0, 1) := by decide +kernel
theorem d_mo_common_13 : decode prog_13_method_69_code 13 = .ok (.iload_n 2, 1) := by decide +kernel
theorem d_mo_common_14 : decode prog_13_method_69_code 14 = .ok (.invokevirtual 140, 3) := by decide +kernel
theorem d_mo_common_17 : decode prog_13_method_69_code 17 = .ok (.ifCond .eq 12, 3) := by decide +kernel
theorem d_mo_common_20 : decode prog_13_method_69_code 20 = .ok (.aload_n 0, 1) := by decide +kernel
theorem d_mo_common_21 : decode prog_13_method_69_code 21 = .ok (.iload_n 1, 1) := by decide +kernel
theorem d_mo_common_22 : decode prog_13_method_69_code 22 = .ok (.iload_n 2, 1) := by decide +kernel
theorem d_mo_common_23 : decode prog_13_method_69_code 23 = .ok (.invokevirtual 243, 3) := by decide +kernel
theorem d_mo_common_26 : decode prog_13_method_69_code 26 = .ok (.goto 5, 3) := by decide +kernel
theorem d_mo_common_29 : decode prog_13_method_69_code 29 = .ok (.bipush (-2), 2) := by decide +kernel
theorem d_mo_common_31 : decode prog_13_method_69_code 31 = .ok (.ireturn, 1) := by decide +kernel
theorem d_mo_farOf_0 : decode prog_13_method_70_code 0 = .ok (.aload_n 0, 1) := by decide +kernel
theorem d_mo_farOf_1 : decode prog_13_method_70_code 1 = .ok (.getfield 31, 3) := by decide +kernel
theorem d_mo_farOf_4 : decode prog_13_method_70_code 4 = .ok (.iload_n 1, 1) := by decide +kernel
theorem d_mo_farOf_5 : decode prog_13_method_70_code 5 = .ok (.iaload, 1) := by decide +kernel
theorem d_mo_farOf_6 : decode prog_13_method_70_code 6 = .ok (.aload_n 0, 1) := by decide +kernel
theorem d_mo_farOf_7 : decode prog_13_method_70_code 7 = .ok (.getfield 31, 3) := by decide +kernel
theorem d_mo_farOf_10 : decode prog_13_method_70_code 10 = .ok (.iload_n 2, 1) := by decide +kernel
theorem d_mo_farOf_11 : decode prog_13_method_70_code 11 = .ok (.iaload, 1) := by decide +kernel
theorem d_mo_farOf_12 : decode prog_13_method_70_code 12 = .ok (.iadd, 1) := by decide +kernel
theorem d_mo_farOf_13 : decode prog_13_method_70_code 13 = .ok (.iconst 2, 1) := by decide +kernel
theorem d_mo_farOf_14 : decode prog_13_method_70_code 14 = .ok (.aload_n 0, 1) := by decide +kernel
theorem d_mo_farOf_15 : decode prog_13_method_70_code 15 = .ok (.iload_n 1, 1) := by decide +kernel
theorem d_mo_farOf_16 : decode prog_13_method_70_code 16 = .ok (.iload_n 2, 1) := by decide +kernel
theorem d_mo_farOf_17 : decode prog_13_method_70_code 17 = .ok (.invokevirtual 243, 3) := by decide +kernel
theorem d_mo_farOf_20 : decode prog_13_method_70_code 20 = .ok (.imul, 1) := by decide +kernel
theorem d_mo_farOf_21 : decode prog_13_method_70_code 21 = .ok (.isub, 1) := by decide +kernel
theorem d_mo_farOf_22 : decode prog_13_method_70_code 22 = .ok (.ireturn, 1) := by decide +kernel
theorem d_mo_far_0 : decode prog_13_method_71_code 0 = .ok (.aload_n 0, 1) := by decide +kernel
theorem d_mo_far_1 : decode prog_13_method_71_code 1 = .ok (.invokevirtual 137, 3) := by decide +kernel
theorem d_mo_far_4 : decode prog_13_method_71_code 4 = .ok (.aload_n 0, 1) := by decide +kernel
theorem d_mo_far_5 : decode prog_13_method_71_code 5 = .ok (.iload_n 1, 1) := by decide +kernel
theorem d_mo_far_6 : decode prog_13_method_71_code 6 = .ok (.invokevirtual 140, 3) := by decide +kernel
theorem d_mo_far_9 : decode prog_13_method_71_code 9 = .ok (.ifCond .eq 20, 3) := by decide +kernel
theorem d_mo_far_12 : decode prog_13_method_71_code 12 = .ok (.aload_n 0, 1) := by decide +kernel
theorem d_mo_far_13 : decode prog_13_method_71_code 13 = .ok (.iload_n 2, 1) := by decide +kernel
theorem d_mo_far_14 : decode prog_13_method_71_code 14 = .ok (.invokevirtual 140, 3) := by decide +kernel
theorem d_mo_far_17 : decode prog_13_method_71_code 17 = .ok (.ifCond .eq 12, 3) := by decide +kernel
theorem d_mo_far_20 : decode prog_13_method_71_code 20 = .ok (.aload_n 0, 1) := by decide +kernel
theorem d_mo_far_21 : decode prog_13_method_71_code 21 = .ok (.iload_n 1, 1) := by decide +kernel
theorem d_mo_far_22 : decode prog_13_method_71_code 22 = .ok (.iload_n 2, 1) := by decide +kernel
theorem d_mo_far_23 : decode prog_13_method_71_code 23 = .ok (.invokevirtual 246, 3) := by decide +kernel
theorem d_mo_far_26 : decode prog_13_method_71_code 26 = .ok (.goto 5, 3) := by decide +kernel
theorem d_mo_far_29 : decode prog_13_method_71_code 29 = .ok (.bipush (-2), 2) := by decide +kernel
theorem d_mo_far_31 : decode prog_13_method_71_code 31 = .ok (.ireturn, 1) := by decide +kernel
theorem d_mo_nearestOf_0 : decode prog_13_method_72_code 0 = .ok (.iconst (-1), 1) := by decide +kernel
theorem d_mo_nearestOf_1 : decode prog_13_method_72_code 1 = .ok (.istore_n 2, 1) := by decide +kernel
theorem d_mo_nearestOf_2 : decode prog_13_method_72_code 2 = .ok (.iconst 0, 1) := by decide +kernel
theorem d_mo_nearestOf_3 : decode prog_13_method_72_code 3 = .ok (.istore_n 3, 1) := by decide +kernel
theorem d_mo_nearestOf_4 : decode prog_13_method_72_code 4 = .ok (.iload_n 3, 1) := by decide +kernel
theorem d_mo_nearestOf_5 : decode prog_13_method_72_code 5 = .ok (.aload_n 0, 1) := by decide +kernel
theorem d_mo_nearestOf_6 : decode prog_13_method_72_code 6 = .ok (.getfield 112, 3) := by decide +kernel
theorem d_mo_nearestOf_9 : decode prog_13_method_72_code 9 = .ok (.if_icmp .ge 40, 3) := by decide +kernel
theorem d_mo_nearestOf_12 : decode prog_13_method_72_code 12 = .ok (.iload_n 3, 1) := by decide +kernel
theorem d_mo_nearestOf_13 : decode prog_13_method_72_code 13 = .ok (.iload_n 1, 1) := by decide +kernel
theorem d_mo_nearestOf_14 : decode prog_13_method_72_code 14 = .ok (.if_icmp .eq 27, 3) := by decide +kernel
theorem d_mo_nearestOf_17 : decode prog_13_method_72_code 17 = .ok (.iload_n 2, 1) := by decide +kernel
theorem d_mo_nearestOf_18 : decode prog_13_method_72_code 18 = .ok (.iconst (-1), 1) := by decide +kernel
theorem d_mo_nearestOf_19 : decode prog_13_method_72_code 19 = .ok (.if_icmp .eq 18, 3) := by decide +kernel
theorem d_mo_nearestOf_22 : decode prog_13_method_72_code 22 = .ok (.aload_n 0, 1) := by decide +kernel
theorem d_mo_nearestOf_23 : decode prog_13_method_72_code 23 = .ok (.iload_n 1, 1) := by decide +kernel
theorem d_mo_nearestOf_24 : decode prog_13_method_72_code 24 = .ok (.iload_n 3, 1) := by decide +kernel
theorem d_mo_nearestOf_25 : decode prog_13_method_72_code 25 = .ok (.invokevirtual 246, 3) := by decide +kernel
theorem d_mo_nearestOf_28 : decode prog_13_method_72_code 28 = .ok (.aload_n 0, 1) := by decide +kernel
theorem d_mo_nearestOf_29 : decode prog_13_method_72_code 29 = .ok (.iload_n 1, 1) := by decide +kernel
theorem d_mo_nearestOf_30 : decode prog_13_method_72_code 30 = .ok (.iload_n 2, 1) := by decide +kernel
theorem d_mo_nearestOf_31 : decode prog_13_method_72_code 31 = .ok (.invokevirtual 246, 3) := by decide +kernel
theorem d_mo_nearestOf_34 : decode prog_13_method_72_code 34 = .ok (.if_icmp .ge 7, 3) := by decide +kernel
theorem d_mo_nearestOf_37 : decode prog_13_method_72_code 37 = .ok (.iload_n 3, 1) := by decide +kernel
theorem d_mo_nearestOf_38 : decode prog_13_method_72_code 38 = .ok (.goto 4, 3) := by decide +kernel
theorem d_mo_nearestOf_41 : decode prog_13_method_72_code 41 = .ok (.iload_n 2, 1) := by decide +kernel
theorem d_mo_nearestOf_42 : decode prog_13_method_72_code 42 = .ok (.istore_n 2, 1) := by decide +kernel
theorem d_mo_nearestOf_43 : decode prog_13_method_72_code 43 = .ok (.iinc 3 1, 3) := by decide +kernel
theorem d_mo_nearestOf_46 : decode prog_13_method_72_code 46 = .ok (.goto (-42), 3) := by decide +kernel
theorem d_mo_nearestOf_49 : decode prog_13_method_72_code 49 = .ok (.iload_n 2, 1) := by decide +kernel
theorem d_mo_nearestOf_50 : decode prog_13_method_72_code 50 = .ok (.ireturn, 1) := by decide +kernel
theorem d_mo_nearest_0 : decode prog_13_method_73_code 0 = .ok (.aload_n 0, 1) := by decide +kernel
theorem d_mo_nearest_1 : decode prog_13_method_73_code 1 = .ok (.invokevirtual 137, 3) := by decide +kernel
theorem d_mo_nearest_4 : decode prog_13_method_73_code 4 = .ok (.aload_n 0, 1) := by decide +kernel
theorem d_mo_nearest_5 : decode prog_13_method_73_code 5 = .ok (.iload_n 1, 1) := by decide +kernel
theorem d_mo_nearest_6 : decode prog_13_method_73_code 6 = .ok (.invokevirtual 140, 3) := by decide +kernel
theorem d_mo_nearest_9 : decode prog_13_method_73_code 9 = .ok (.ifCond .eq 11, 3) := by decide +kernel
theorem d_mo_nearest_12 : decode prog_13_method_73_code 12 = .ok (.aload_n 0, 1) := by decide +kernel
theorem d_mo_nearest_13 : decode prog_13_method_73_code 13 = .ok (.iload_n 1, 1) := by decide +kernel
theorem d_mo_nearest_14 : decode prog_13_method_73_code 14 = .ok (.invokevirtual 249, 3) := by decide +kernel
theorem d_mo_nearest_17 : decode prog_13_method_73_code 17 = .ok (.goto 5, 3) := by decide +kernel
theorem d_mo_nearest_20 : decode prog_13_method_73_code 20 = .ok (.bipush (-2), 2) := by decide +kernel
theorem d_mo_nearest_22 : decode prog_13_method_73_code 22 = .ok (.ireturn, 1) := by decide +kernel
theorem d_mo_mothersOf_0 : decode prog_13_method_74_code 0 = .ok (.iconst 0, 1) := by decide +kernel
theorem d_mo_mothersOf_1 : decode prog_13_method_74_code 1 = .ok (.istore_n 2, 1) := by decide +kernel
theorem d_mo_mothersOf_2 : decode prog_13_method_74_code 2 = .ok (.iconst 0, 1) := by decide +kernel
theorem d_mo_mothersOf_3 : decode prog_13_method_74_code 3 = .ok (.istore_n 3, 1) := by decide +kernel
theorem d_mo_mothersOf_4 : decode prog_13_method_74_code 4 = .ok (.iload_n 3, 1) := by decide +kernel
theorem d_mo_mothersOf_5 : decode prog_13_method_74_code 5 = .ok (.aload_n 0, 1) := by decide +kernel
theorem d_mo_mothersOf_6 : decode prog_13_method_74_code 6 = .ok (.getfield 112, 3) := by decide +kernel
theorem d_mo_mothersOf_9 : decode prog_13_method_74_code 9 = .ok (.if_icmp .ge 39, 3) := by decide +kernel
theorem d_mo_mothersOf_12 : decode prog_13_method_74_code 12 = .ok (.iload_n 2, 1) := by decide +kernel
theorem d_mo_mothersOf_13 : decode prog_13_method_74_code 13 = .ok (.iload_n 3, 1) := by decide +kernel
theorem d_mo_mothersOf_14 : decode prog_13_method_74_code 14 = .ok (.iload_n 1, 1) := by decide +kernel
theorem d_mo_mothersOf_15 : decode prog_13_method_74_code 15 = .ok (.if_icmp .eq 24, 3) := by decide +kernel
theorem d_mo_mothersOf_18 : decode prog_13_method_74_code 18 = .ok (.aload_n 0, 1) := by decide +kernel
theorem d_mo_mothersOf_19 : decode prog_13_method_74_code 19 = .ok (.iload_n 3, 1) := by decide +kernel
theorem d_mo_mothersOf_20 : decode prog_13_method_74_code 20 = .ok (.iload_n 1, 1) := by decide +kernel
theorem d_mo_mothersOf_21 : decode prog_13_method_74_code 21 = .ok (.invokevirtual 243, 3) := by decide +kernel
theorem d_mo_mothersOf_24 : decode prog_13_method_74_code 24 = .ok (.aload_n 0, 1) := by decide +kernel
theorem d_mo_mothersOf_25 : decode prog_13_method_74_code 25 = .ok (.getfield 31, 3) := by decide +kernel
theorem d_mo_mothersOf_28 : decode prog_13_method_74_code 28 = .ok (.iload_n 3, 1) := by decide +kernel
theorem d_mo_mothersOf_29 : decode prog_13_method_74_code 29 = .ok (.iaload, 1) := by decide +kernel
theorem d_mo_mothersOf_30 : decode prog_13_method_74_code 30 = .ok (.if_icmp .ne 9, 3) := by decide +kernel
theorem d_mo_mothersOf_33 : decode prog_13_method_74_code 33 = .ok (.iconst 1, 1) := by decide +kernel
theorem d_mo_mothersOf_34 : decode prog_13_method_74_code 34 = .ok (.iload_n 3, 1) := by decide +kernel
theorem d_mo_mothersOf_35 : decode prog_13_method_74_code 35 = .ok (.ishl, 1) := by decide +kernel
theorem d_mo_mothersOf_36 : decode prog_13_method_74_code 36 = .ok (.goto 4, 3) := by decide +kernel
theorem d_mo_mothersOf_39 : decode prog_13_method_74_code 39 = .ok (.iconst 0, 1) := by decide +kernel
theorem d_mo_mothersOf_40 : decode prog_13_method_74_code 40 = .ok (.ior, 1) := by decide +kernel
theorem d_mo_mothersOf_41 : decode prog_13_method_74_code 41 = .ok (.istore_n 2, 1) := by decide +kernel
theorem d_mo_mothersOf_42 : decode prog_13_method_74_code 42 = .ok (.iinc 3 1, 3) := by decide +kernel
theorem d_mo_mothersOf_45 : decode prog_13_method_74_code 45 = .ok (.goto (-41), 3) := by decide +kernel
theorem d_mo_mothersOf_48 : decode prog_13_method_74_code 48 = .ok (.iload_n 2, 1) := by decide +kernel
theorem d_mo_mothersOf_49 : decode prog_13_method_74_code 49 = .ok (.ireturn, 1) := by decide +kernel
theorem d_mo_mothers_0 : decode prog_13_method_75_code 0 = .ok (.aload_n 0, 1) := by decide +kernel
theorem d_mo_mothers_1 : decode prog_13_method_75_code 1 = .ok (.invokevirtual 137, 3) := by decide +kernel
theorem d_mo_mothers_4 : decode prog_13_method_75_code 4 = .ok (.aload_n 0, 1) := by decide +kernel
theorem d_mo_mothers_5 : decode prog_13_method_75_code 5 = .ok (.iload_n 1, 1) := by decide +kernel
theorem d_mo_mothers_6 : decode prog_13_method_75_code 6 = .ok (.invokevirtual 140, 3) := by decide +kernel
theorem d_mo_mothers_9 : decode prog_13_method_75_code 9 = .ok (.ifCond .eq 11, 3) := by decide +kernel
theorem d_mo_mothers_12 : decode prog_13_method_75_code 12 = .ok (.aload_n 0, 1) := by decide +kernel
theorem d_mo_mothers_13 : decode prog_13_method_75_code 13 = .ok (.iload_n 1, 1) := by decide +kernel
theorem d_mo_mothers_14 : decode prog_13_method_75_code 14 = .ok (.invokevirtual 252, 3) := by decide +kernel
theorem d_mo_mothers_17 : decode prog_13_method_75_code 17 = .ok (.goto 5, 3) := by decide +kernel
theorem d_mo_mothers_20 : decode prog_13_method_75_code 20 = .ok (.bipush (-2), 2) := by decide +kernel
theorem d_mo_mothers_22 : decode prog_13_method_75_code 22 = .ok (.ireturn, 1) := by decide +kernel
theorem d_mo_noteAt_0 : decode prog_13_method_76_code 0 = .ok (.iload_n 2, 1) := by decide +kernel
theorem d_mo_noteAt_1 : decode prog_13_method_76_code 1 = .ok (.aload_n 0, 1) := by decide +kernel
theorem d_mo_noteAt_2 : decode prog_13_method_76_code 2 = .ok (.getfield 31, 3) := by decide +kernel
theorem d_mo_noteAt_5 : decode prog_13_method_76_code 5 = .ok (.iload_n 1, 1) := by decide +kernel
theorem d_mo_noteAt_6 : decode prog_13_method_76_code 6 = .ok (.iaload, 1) := by decide +kernel
theorem d_mo_noteAt_7 : decode prog_13_method_76_code 7 = .ok (.if_icmp .ge 17, 3) := by decide +kernel
theorem d_mo_noteAt_10 : decode prog_13_method_76_code 10 = .ok (.aload_n 0, 1) := by decide +kernel
theorem d_mo_noteAt_11 : decode prog_13_method_76_code 11 = .ok (.getfield 28, 3) := by decide +kernel
theorem d_mo_noteAt_14 : decode prog_13_method_76_code 14 = .ok (.bipush 40, 2) := by decide +kernel
theorem d_mo_noteAt_16 : decode prog_13_method_76_code 16 = .ok (.iload_n 1, 1) := by decide +kernel
theorem d_mo_noteAt_17 : decode prog_13_method_76_code 17 = .ok (.imul, 1) := by decide +kernel
theorem d_mo_noteAt_18 : decode prog_13_method_76_code 18 = .ok (.iload_n 2, 1) := by decide +kernel
theorem d_mo_noteAt_19 : decode prog_13_method_76_code 19 = .ok (.iadd, 1) := by decide +kernel
theorem d_mo_noteAt_20 : decode prog_13_method_76_code 20 = .ok (.iaload, 1) := by decide +kernel
theorem d_mo_noteAt_21 : decode prog_13_method_76_code 21 = .ok (.goto 4, 3) := by decide +kernel
theorem d_mo_noteAt_24 : decode prog_13_method_76_code 24 = .ok (.iconst (-1), 1) := by decide +kernel
theorem d_mo_noteAt_25 : decode prog_13_method_76_code 25 = .ok (.ireturn, 1) := by decide +kernel
theorem d_mo_tellsOf_0 : decode prog_13_method_77_code 0 = .ok (.iconst (-1), 1) := by decide +kernel
theorem d_mo_tellsOf_1 : decode prog_13_method_77_code 1 = .ok (.istore_n 2, 1) := by decide +kernel
theorem d_mo_tellsOf_2 : decode prog_13_method_77_code 2 = .ok (.iconst 0, 1) := by decide +kernel
theorem d_mo_tellsOf_3 : decode prog_13_method_77_code 3 = .ok (.istore_n 3, 1) := by decide +kernel
theorem d_mo_tellsOf_4 : decode prog_13_method_77_code 4 = .ok (.iload_n 3, 1) := by decide +kernel
theorem d_mo_tellsOf_5 : decode prog_13_method_77_code 5 = .ok (.sipush 4096, 3) := by decide +kernel
theorem d_mo_tellsOf_8 : decode prog_13_method_77_code 8 = .ok (.if_icmp .ge 134, 3) := by decide +kernel
theorem d_mo_tellsOf_11 : decode prog_13_method_77_code 11 = .ok (.iload_n 2, 1) := by decide +kernel
theorem d_mo_tellsOf_12 : decode prog_13_method_77_code 12 = .ok (.iconst (-1), 1) := by decide +kernel
theorem d_mo_tellsOf_13 : decode prog_13_method_77_code 13 = .ok (.if_icmp .eq 14, 3) := by decide +kernel
theorem d_mo_tellsOf_16 : decode prog_13_method_77_code 16 = .ok (.iload_n 3, 1) := by decide +kernel
theorem d_mo_tellsOf_17 : decode prog_13_method_77_code 17 = .ok (.invokestatic 255, 3) := by decide +kernel
theorem d_mo_tellsOf_20 : decode prog_13_method_77_code 20 = .ok (.iload_n 2, 1) := by decide +kernel
theorem d_mo_tellsOf_21 : decode prog_13_method_77_code 21 = .ok (.invokestatic 255, 3) := by decide +kernel
theorem d_mo_tellsOf_24 : decode prog_13_method_77_code 24 = .ok (.if_icmp .ge 112, 3) := by decide +kernel
theorem d_mo_tellsOf_27 : decode prog_13_method_77_code 27 = .ok (.iconst 1, 1) := by decide +kernel
theorem d_mo_tellsOf_28 : decode prog_13_method_77_code 28 = .ok (.istore 4, 2) := by decide +kernel
theorem d_mo_tellsOf_30 : decode prog_13_method_77_code 30 = .ok (.iconst 0, 1) := by decide +kernel
theorem d_mo_tellsOf_31 : decode prog_13_method_77_code 31 = .ok (.istore 5, 2) := by decide +kernel
theorem d_mo_tellsOf_33 : decode prog_13_method_77_code 33 = .ok (.iload 5, 2) := by decide +kernel
theorem d_mo_tellsOf_35 : decode prog_13_method_77_code 35 = .ok (.aload_n 0, 1) := by decide +kernel
theorem d_mo_tellsOf_36 : decode prog_13_method_77_code 36 = .ok (.getfield 112, 3) := by decide +kernel
theorem d_mo_tellsOf_39 : decode prog_13_method_77_code 39 = .ok (.if_icmp .ge 86, 3) := by decide +kernel
theorem d_mo_tellsOf_42 : decode prog_13_method_77_code 42 = .ok (.iload 4, 2) := by decide +kernel
theorem d_mo_tellsOf_44 : decode prog_13_method_77_code 44 = .ok (.ifCond .eq 81, 3) := by decide +kernel
theorem d_mo_tellsOf_47 : decode prog_13_method_77_code 47 = .ok (.iload 5, 2) := by decide +kernel
theorem d_mo_tellsOf_49 : decode prog_13_method_77_code 49 = .ok (.iload_n 1, 1) := by decide +kernel
theorem d_mo_tellsOf_50 : decode prog_13_method_77_code 50 = .ok (.if_icmp .ne 7, 3) := by decide +kernel
theorem d_mo_tellsOf_53 : decode prog_13_method_77_code 53 = .ok (.iconst 1, 1) := by decide +kernel
theorem d_mo_tellsOf_54 : decode prog_13_method_77_code 54 = .ok (.goto 4, 3) := by decide +kernel
theorem d_mo_tellsOf_57 : decode prog_13_method_77_code 57 = .ok (.iconst 0, 1) := by decide +kernel
theorem d_mo_tellsOf_58 : decode prog_13_method_77_code 58 = .ok (.istore 6, 2) := by decide +kernel
theorem d_mo_tellsOf_60 : decode prog_13_method_77_code 60 = .ok (.iconst 0, 1) := by decide +kernel
theorem d_mo_tellsOf_61 : decode prog_13_method_77_code 61 = .ok (.istore 7, 2) := by decide +kernel
theorem d_mo_tellsOf_63 : decode prog_13_method_77_code 63 = .ok (.iload 7, 2) := by decide +kernel
theorem d_mo_tellsOf_65 : decode prog_13_method_77_code 65 = .ok (.bipush 12, 2) := by decide +kernel
theorem d_mo_tellsOf_67 : decode prog_13_method_77_code 67 = .ok (.if_icmp .ge 48, 3) := by decide +kernel
theorem d_mo_tellsOf_70 : decode prog_13_method_77_code 70 = .ok (.iload 6, 2) := by decide +kernel
theorem d_mo_tellsOf_72 : decode prog_13_method_77_code 72 = .ok (.ifCond .ne 43, 3) := by decide +kernel
theorem d_mo_tellsOf_75 : decode prog_13_method_77_code 75 = .ok (.iload_n 3, 1) := by decide +kernel
theorem d_mo_tellsOf_76 : decode prog_13_method_77_code 76 = .ok (.iload 7, 2) := by decide +kernel
theorem d_mo_tellsOf_78 : decode prog_13_method_77_code 78 = .ok (.invokestatic 258, 3) := by decide +kernel
theorem d_mo_tellsOf_81 : decode prog_13_method_77_code 81 = .ok (.ifCond .eq 25, 3) := by decide +kernel
theorem d_mo_tellsOf_84 : decode prog_13_method_77_code 84 = .ok (.aload_n 0, 1) := by decide +kernel
theorem d_mo_tellsOf_85 : decode prog_13_method_77_code 85 = .ok (.iload 5, 2) := by decide +kernel
theorem d_mo_tellsOf_87 : decode prog_13_method_77_code 87 = .ok (.iload 7, 2) := by decide +kernel
theorem d_mo_tellsOf_89 : decode prog_13_method_77_code 89 = .ok (.invokevirtual 262, 3) := by decide +kernel
theorem d_mo_tellsOf_92 : decode prog_13_method_77_code 92 = .ok (.aload_n 0, 1) := by decide +kernel
theorem d_mo_tellsOf_93 : decode prog_13_method_77_code 93 = .ok (.iload_n 1, 1) := by decide +kernel
theorem d_mo_tellsOf_94 : decode prog_13_method_77_code 94 = .ok (.iload 7, 2) := by decide +kernel
theorem d_mo_tellsOf_96 : decode prog_13_method_77_code 96 = .ok (.invokevirtual 262, 3) := by decide +kernel
theorem d_mo_tellsOf_99 : decode prog_13_method_77_code 99 = .ok (.if_icmp .eq 7, 3) := by decide +kernel
theorem d_mo_tellsOf_102 : decode prog_13_method_77_code 102 = .ok (.iconst 1, 1) := by decide +kernel
theorem d_mo_tellsOf_103 : decode prog_13_method_77_code 103 = .ok (.goto 4, 3) := by decide +kernel
theorem d_mo_tellsOf_106 : decode prog_13_method_77_code 106 = .ok (.iconst 0, 1) := by decide +kernel
theorem d_mo_tellsOf_107 : decode prog_13_method_77_code 107 = .ok (.istore 6, 2) := by decide +kernel
theorem d_mo_tellsOf_109 : decode prog_13_method_77_code 109 = .ok (.iinc 7 1, 3) := by decide +kernel
theorem d_mo_tellsOf_112 : decode prog_13_method_77_code 112 = .ok (.goto (-49), 3) := by decide +kernel
theorem d_mo_tellsOf_115 : decode prog_13_method_77_code 115 = .ok (.iload 6, 2) := by decide +kernel
theorem d_mo_tellsOf_117 : decode prog_13_method_77_code 117 = .ok (.istore 4, 2) := by decide +kernel
theorem d_mo_tellsOf_119 : decode prog_13_method_77_code 119 = .ok (.iinc 5 1, 3) := by decide +kernel
theorem d_mo_tellsOf_122 : decode prog_13_method_77_code 122 = .ok (.goto (-89), 3) := by decide +kernel
theorem d_mo_tellsOf_125 : decode prog_13_method_77_code 125 = .ok (.iload 4, 2) := by decide +kernel
theorem d_mo_tellsOf_127 : decode prog_13_method_77_code 127 = .ok (.ifCond .eq 7, 3) := by decide +kernel
theorem d_mo_tellsOf_130 : decode prog_13_method_77_code 130 = .ok (.iload_n 3, 1) := by decide +kernel
theorem d_mo_tellsOf_131 : decode prog_13_method_77_code 131 = .ok (.goto 4, 3) := by decide +kernel
theorem d_mo_tellsOf_134 : decode prog_13_method_77_code 134 = .ok (.iload_n 2, 1) := by decide +kernel
theorem d_mo_tellsOf_135 : decode prog_13_method_77_code 135 = .ok (.istore_n 2, 1) := by decide +kernel
theorem d_mo_tellsOf_136 : decode prog_13_method_77_code 136 = .ok (.iinc 3 1, 3) := by decide +kernel
theorem d_mo_tellsOf_139 : decode prog_13_method_77_code 139 = .ok (.goto (-135), 3) := by decide +kernel
theorem d_mo_tellsOf_142 : decode prog_13_method_77_code 142 = .ok (.iload_n 2, 1) := by decide +kernel
theorem d_mo_tellsOf_143 : decode prog_13_method_77_code 143 = .ok (.ireturn, 1) := by decide +kernel
theorem d_mo_tellsBits_0 : decode prog_13_method_78_code 0 = .ok (.iload_n 0, 1) := by decide +kernel
theorem d_mo_tellsBits_1 : decode prog_13_method_78_code 1 = .ok (.iconst (-1), 1) := by decide +kernel
theorem d_mo_tellsBits_2 : decode prog_13_method_78_code 2 = .ok (.if_icmp .eq 8, 3) := by decide +kernel
theorem d_mo_tellsBits_5 : decode prog_13_method_78_code 5 = .ok (.iload_n 1, 1) := by decide +kernel
theorem d_mo_tellsBits_6 : decode prog_13_method_78_code 6 = .ok (.iconst 1, 1) := by decide +kernel
theorem d_mo_tellsBits_7 : decode prog_13_method_78_code 7 = .ok (.if_icmp .ne 7, 3) := by decide +kernel
theorem d_mo_tellsBits_10 : decode prog_13_method_78_code 10 = .ok (.iload_n 0, 1) := by decide +kernel
theorem d_mo_tellsBits_11 : decode prog_13_method_78_code 11 = .ok (.goto 7, 3) := by decide +kernel
theorem d_mo_tellsBits_14 : decode prog_13_method_78_code 14 = .ok (.iload_n 0, 1) := by decide +kernel
theorem d_mo_tellsBits_15 : decode prog_13_method_78_code 15 = .ok (.invokestatic 255, 3) := by decide +kernel
theorem d_mo_tellsBits_18 : decode prog_13_method_78_code 18 = .ok (.ireturn, 1) := by decide +kernel
theorem d_mo_tells_0 : decode prog_13_method_79_code 0 = .ok (.aload_n 0, 1) := by decide +kernel
theorem d_mo_tells_1 : decode prog_13_method_79_code 1 = .ok (.invokevirtual 137, 3) := by decide +kernel
theorem d_mo_tells_4 : decode prog_13_method_79_code 4 = .ok (.aload_n 0, 1) := by decide +kernel
theorem d_mo_tells_5 : decode prog_13_method_79_code 5 = .ok (.iload_n 1, 1) := by decide +kernel
theorem d_mo_tells_6 : decode prog_13_method_79_code 6 = .ok (.invokevirtual 140, 3) := by decide +kernel
theorem d_mo_tells_9 : decode prog_13_method_79_code 9 = .ok (.ifCond .eq 22, 3) := by decide +kernel
theorem d_mo_tells_12 : decode prog_13_method_79_code 12 = .ok (.iload_n 2, 1) := by decide +kernel
theorem d_mo_tells_13 : decode prog_13_method_79_code 13 = .ok (.invokestatic 107, 3) := by decide +kernel
theorem d_mo_tells_16 : decode prog_13_method_79_code 16 = .ok (.ifCond .eq 15, 3) := by decide +kernel
theorem d_mo_tells_19 : decode prog_13_method_79_code 19 = .ok (.aload_n 0, 1) := by decide +kernel
theorem d_mo_tells_20 : decode prog_13_method_79_code 20 = .ok (.iload_n 1, 1) := by decide +kernel
theorem d_mo_tells_21 : decode prog_13_method_79_code 21 = .ok (.invokevirtual 265, 3) := by decide +kernel
theorem d_mo_tells_24 : decode prog_13_method_79_code 24 = .ok (.iload_n 2, 1) := by decide +kernel
theorem d_mo_tells_25 : decode prog_13_method_79_code 25 = .ok (.invokestatic 268, 3) := by decide +kernel
theorem d_mo_tells_28 : decode prog_13_method_79_code 28 = .ok (.goto 5, 3) := by decide +kernel
theorem d_mo_tells_31 : decode prog_13_method_79_code 31 = .ok (.bipush (-2), 2) := by decide +kernel
theorem d_mo_tells_33 : decode prog_13_method_79_code 33 = .ok (.ireturn, 1) := by decide +kernel
theorem d_mo_losesOf_0 : decode prog_13_method_80_code 0 = .ok (.aload_n 0, 1) := by decide +kernel
theorem d_mo_losesOf_1 : decode prog_13_method_80_code 1 = .ok (.bipush 39, 2) := by decide +kernel
theorem d_mo_losesOf_3 : decode prog_13_method_80_code 3 = .ok (.iconst 0, 1) := by decide +kernel
theorem d_mo_losesOf_4 : decode prog_13_method_80_code 4 = .ok (.invokevirtual 207, 3) := by decide +kernel
theorem d_mo_losesOf_7 : decode prog_13_method_80_code 7 = .ok (.aload_n 0, 1) := by decide +kernel
theorem d_mo_losesOf_8 : decode prog_13_method_80_code 8 = .ok (.bipush 39, 2) := by decide +kernel
theorem d_mo_losesOf_10 : decode prog_13_method_80_code 10 = .ok (.iload_n 1, 1) := by decide +kernel
theorem d_mo_losesOf_11 : decode prog_13_method_80_code 11 = .ok (.invokevirtual 207, 3) := by decide +kernel
theorem d_mo_losesOf_14 : decode prog_13_method_80_code 14 = .ok (.isub, 1) := by decide +kernel
theorem d_mo_losesOf_15 : decode prog_13_method_80_code 15 = .ok (.ireturn, 1) := by decide +kernel
theorem d_mo_loses_0 : decode prog_13_method_81_code 0 = .ok (.aload_n 0, 1) := by decide +kernel
theorem d_mo_loses_1 : decode prog_13_method_81_code 1 = .ok (.invokevirtual 137, 3) := by decide +kernel
theorem d_mo_loses_4 : decode prog_13_method_81_code 4 = .ok (.iload_n 1, 1) := by decide +kernel
theorem d_mo_loses_5 : decode prog_13_method_81_code 5 = .ok (.i2l, 1) := by decide +kernel
theorem d_mo_loses_6 : decode prog_13_method_81_code 6 = .ok (.lconst 0, 1) := by decide +kernel
theorem d_mo_loses_7 : decode prog_13_method_81_code 7 = .ok (.ldc2_w 163, 3) := by decide +kernel
theorem d_mo_loses_10 : decode prog_13_method_81_code 10 = .ok (.invokestatic 79, 3) := by decide +kernel
theorem d_mo_loses_13 : decode prog_13_method_81_code 13 = .ok (.ifCond .eq 11, 3) := by decide +kernel
theorem d_mo_loses_16 : decode prog_13_method_81_code 16 = .ok (.aload_n 0, 1) := by decide +kernel
theorem d_mo_loses_17 : decode prog_13_method_81_code 17 = .ok (.iload_n 1, 1) := by decide +kernel
theorem d_mo_loses_18 : decode prog_13_method_81_code 18 = .ok (.invokevirtual 271, 3) := by decide +kernel
theorem d_mo_loses_21 : decode prog_13_method_81_code 21 = .ok (.goto 6, 3) := by decide +kernel
theorem d_mo_loses_24 : decode prog_13_method_81_code 24 = .ok (.sipush (-1002), 3) := by decide +kernel
theorem d_mo_loses_27 : decode prog_13_method_81_code 27 = .ok (.ireturn, 1) := by decide +kernel
theorem d_mo_bestOf_0 : decode prog_13_method_82_code 0 = .ok (.bipush 12, 2) := by decide +kernel
theorem d_mo_bestOf_2 : decode prog_13_method_82_code 2 = .ok (.istore_n 2, 1) := by decide +kernel
theorem d_mo_bestOf_3 : decode prog_13_method_82_code 3 = .ok (.iload_n 2, 1) := by decide +kernel
theorem d_mo_bestOf_4 : decode prog_13_method_82_code 4 = .ok (.ifCond .lt 22, 3) := by decide +kernel
theorem d_mo_bestOf_7 : decode prog_13_method_82_code 7 = .ok (.aload_n 0, 1) := by decide +kernel
theorem d_mo_bestOf_8 : decode prog_13_method_82_code 8 = .ok (.bipush 39, 2) := by decide +kernel
theorem d_mo_bestOf_10 : decode prog_13_method_82_code 10 = .ok (.iload_n 2, 1) := by decide +kernel
theorem d_mo_bestOf_11 : decode prog_13_method_82_code 11 = .ok (.invokevirtual 207, 3) := by decide +kernel
theorem d_mo_bestOf_14 : decode prog_13_method_82_code 14 = .ok (.iload_n 1, 1) := by decide +kernel
theorem d_mo_bestOf_15 : decode prog_13_method_82_code 15 = .ok (.if_icmp .lt 5, 3) := by decide +kernel
theorem d_mo_bestOf_18 : decode prog_13_method_82_code 18 = .ok (.iload_n 2, 1) := by decide +kernel
theorem d_mo_bestOf_19 : decode prog_13_method_82_code 19 = .ok (.ireturn, 1) := by decide +kernel
theorem d_mo_bestOf_20 : decode prog_13_method_82_code 20 = .ok (.iinc 2 (-1), 3) := by decide +kernel
theorem d_mo_bestOf_23 : decode prog_13_method_82_code 23 = .ok (.goto (-20), 3) := by decide +kernel
theorem d_mo_bestOf_26 : decode prog_13_method_82_code 26 = .ok (.iconst (-1), 1) := by decide +kernel
theorem d_mo_bestOf_27 : decode prog_13_method_82_code 27 = .ok (.ireturn, 1) := by decide +kernel
theorem d_mo_best_0 : decode prog_13_method_83_code 0 = .ok (.aload_n 0, 1) := by decide +kernel
theorem d_mo_best_1 : decode prog_13_method_83_code 1 = .ok (.invokevirtual 137, 3) := by decide +kernel
theorem d_mo_best_4 : decode prog_13_method_83_code 4 = .ok (.iload_n 1, 1) := by decide +kernel
theorem d_mo_best_5 : decode prog_13_method_83_code 5 = .ok (.i2l, 1) := by decide +kernel
theorem d_mo_best_6 : decode prog_13_method_83_code 6 = .ok (.lconst 0, 1) := by decide +kernel
theorem d_mo_best_7 : decode prog_13_method_83_code 7 = .ok (.ldc2_w 274, 3) := by decide +kernel
theorem d_mo_best_10 : decode prog_13_method_83_code 10 = .ok (.invokestatic 79, 3) := by decide +kernel
theorem d_mo_best_13 : decode prog_13_method_83_code 13 = .ok (.ifCond .eq 11, 3) := by decide +kernel
theorem d_mo_best_16 : decode prog_13_method_83_code 16 = .ok (.aload_n 0, 1) := by decide +kernel
theorem d_mo_best_17 : decode prog_13_method_83_code 17 = .ok (.iload_n 1, 1) := by decide +kernel
theorem d_mo_best_18 : decode prog_13_method_83_code 18 = .ok (.invokevirtual 276, 3) := by decide +kernel
theorem d_mo_best_21 : decode prog_13_method_83_code 21 = .ok (.goto 5, 3) := by decide +kernel
theorem d_mo_best_24 : decode prog_13_method_83_code 24 = .ok (.bipush (-2), 2) := by decide +kernel
theorem d_mo_best_26 : decode prog_13_method_83_code 26 = .ok (.ireturn, 1) := by decide +kernel
theorem d_mo_humsOf_0 : decode prog_13_method_84_code 0 = .ok (.lconst 0, 1) := by decide +kernel
theorem d_mo_humsOf_1 : decode prog_13_method_84_code 1 = .ok (.lstore 7, 2) := by decide +kernel
theorem d_mo_humsOf_3 : decode prog_13_method_84_code 3 = .ok (.lconst 1, 1) := by decide +kernel
theorem d_mo_humsOf_4 : decode prog_13_method_84_code 4 = .ok (.lstore 9, 2) := by decide +kernel
theorem d_mo_humsOf_6 : decode prog_13_method_84_code 6 = .ok (.iconst 0, 1) := by decide +kernel
theorem d_mo_humsOf_7 : decode prog_13_method_84_code 7 = .ok (.istore 11, 2) := by decide +kernel
theorem d_mo_humsOf_9 : decode prog_13_method_84_code 9 = .ok (.iload 11, 2) := by decide +kernel
theorem d_mo_humsOf_11 : decode prog_13_method_84_code 11 = .ok (.iload 4, 2) := by decide +kernel
theorem d_mo_humsOf_13 : decode prog_13_method_84_code 13 = .ok (.if_icmp .ge 17, 3) := by decide +kernel
theorem d_mo_humsOf_16 : decode prog_13_method_84_code 16 = .ok (.lload 9, 2) := by decide +kernel
theorem d_mo_humsOf_18 : decode prog_13_method_84_code 18 = .ok (.ldc2_w 279, 3) := by decide +kernel
theorem d_mo_humsOf_21 : decode prog_13_method_84_code 21 = .ok (.lmul, 1) := by decide +kernel
theorem d_mo_humsOf_22 : decode prog_13_method_84_code 22 = .ok (.lstore 9, 2) := by decide +kernel
theorem d_mo_humsOf_24 : decode prog_13_method_84_code 24 = .ok (.iinc 11 1, 3) := by decide +kernel
theorem d_mo_humsOf_27 : decode prog_13_method_84_code 27 = .ok (.goto (-18), 3) := by decide +kernel
theorem d_mo_humsOf_30 : decode prog_13_method_84_code 30 = .ok (.lconst 1, 1) := by decide +kernel
theorem d_mo_humsOf_31 : decode prog_13_method_84_code 31 = .ok (.lstore 11, 2) := by decide +kernel
theorem d_mo_humsOf_33 : decode prog_13_method_84_code 33 = .ok (.aload_n 0, 1) := by decide +kernel
theorem d_mo_humsOf_34 : decode prog_13_method_84_code 34 = .ok (.iload_n 2, 1) := by decide +kernel
theorem d_mo_humsOf_35 : decode prog_13_method_84_code 35 = .ok (.bipush 6, 2) := by decide +kernel
theorem d_mo_humsOf_37 : decode prog_13_method_84_code 37 = .ok (.invokevirtual 171, 3) := by decide +kernel
theorem d_mo_humsOf_40 : decode prog_13_method_84_code 40 = .ok (.iconst 0, 1) := by decide +kernel
theorem d_mo_humsOf_41 : decode prog_13_method_84_code 41 = .ok (.istore 13, 2) := by decide +kernel
theorem d_mo_humsOf_43 : decode prog_13_method_84_code 43 = .ok (.iload 13, 2) := by decide +kernel
theorem d_mo_humsOf_45 : decode prog_13_method_84_code 45 = .ok (.iload 4, 2) := by decide +kernel
theorem d_mo_humsOf_47 : decode prog_13_method_84_code 47 = .ok (.if_icmp .gt 98, 3) := by decide +kernel
theorem d_mo_humsOf_50 : decode prog_13_method_84_code 50 = .ok (.lload 11, 2) := by decide +kernel
theorem d_mo_humsOf_52 : decode prog_13_method_84_code 52 = .ok (.lstore 14, 2) := by decide +kernel
theorem d_mo_humsOf_54 : decode prog_13_method_84_code 54 = .ok (.iconst 0, 1) := by decide +kernel
theorem d_mo_humsOf_55 : decode prog_13_method_84_code 55 = .ok (.istore 16, 2) := by decide +kernel
theorem d_mo_humsOf_57 : decode prog_13_method_84_code 57 = .ok (.iload 16, 2) := by decide +kernel
theorem d_mo_humsOf_59 : decode prog_13_method_84_code 59 = .ok (.iload 4, 2) := by decide +kernel
theorem d_mo_humsOf_61 : decode prog_13_method_84_code 61 = .ok (.if_icmp .ge 31, 3) := by decide +kernel
theorem d_mo_humsOf_64 : decode prog_13_method_84_code 64 = .ok (.lload 14, 2) := by decide +kernel
theorem d_mo_humsOf_66 : decode prog_13_method_84_code 66 = .ok (.iload 16, 2) := by decide +kernel
theorem d_mo_humsOf_68 : decode prog_13_method_84_code 68 = .ok (.iload 13, 2) := by decide +kernel
theorem d_mo_humsOf_70 : decode prog_13_method_84_code 70 = .ok (.if_icmp .ge 8, 3) := by decide +kernel
theorem d_mo_humsOf_73 : decode prog_13_method_84_code 73 = .ok (.iload_n 1, 1) := by decide +kernel
theorem d_mo_humsOf_74 : decode prog_13_method_84_code 74 = .ok (.i2l, 1) := by decide +kernel
theorem d_mo_humsOf_75 : decode prog_13_method_84_code 75 = .ok (.goto 8, 3) := by decide +kernel
theorem d_mo_humsOf_78 : decode prog_13_method_84_code 78 = .ok (.bipush 16, 2) := by decide +kernel
theorem d_mo_humsOf_80 : decode prog_13_method_84_code 80 = .ok (.iload_n 1, 1) := by decide +kernel
theorem d_mo_humsOf_81 : decode prog_13_method_84_code 81 = .ok (.isub, 1) := by decide +kernel
theorem d_mo_humsOf_82 : decode prog_13_method_84_code 82 = .ok (.i2l, 1) := by decide +kernel
theorem d_mo_humsOf_83 : decode prog_13_method_84_code 83 = .ok (.lmul, 1) := by decide +kernel
theorem d_mo_humsOf_84 : decode prog_13_method_84_code 84 = .ok (.lstore 14, 2) := by decide +kernel
theorem d_mo_humsOf_86 : decode prog_13_method_84_code 86 = .ok (.iinc 16 1, 3) := by decide +kernel
theorem d_mo_humsOf_89 : decode prog_13_method_84_code 89 = .ok (.goto (-32), 3) := by decide +kernel
theorem d_mo_humsOf_92 : decode prog_13_method_84_code 92 = .ok (.lload 7, 2) := by decide +kernel
theorem d_mo_humsOf_94 : decode prog_13_method_84_code 94 = .ok (.aload_n 0, 1) := by decide +kernel
theorem d_mo_humsOf_95 : decode prog_13_method_84_code 95 = .ok (.getfield 43, 3) := by decide +kernel
theorem d_mo_humsOf_98 : decode prog_13_method_84_code 98 = .ok (.bipush 6, 2) := by decide +kernel
theorem d_mo_humsOf_100 : decode prog_13_method_84_code 100 = .ok (.iaload, 1) := by decide +kernel
theorem d_mo_humsOf_101 : decode prog_13_method_84_code 101 = .ok (.iload 5, 2) := by decide +kernel
theorem d_mo_humsOf_103 : decode prog_13_method_84_code 103 = .ok (.if_icmp .lt 8, 3) := by decide +kernel
theorem d_mo_humsOf_106 : decode prog_13_method_84_code 106 = .ok (.lload 14, 2) := by decide +kernel
theorem d_mo_humsOf_108 : decode prog_13_method_84_code 108 = .ok (.goto 4, 3) := by decide +kernel
theorem d_mo_humsOf_111 : decode prog_13_method_84_code 111 = .ok (.lconst 0, 1) := by decide +kernel
theorem d_mo_humsOf_112 : decode prog_13_method_84_code 112 = .ok (.ladd, 1) := by decide +kernel
theorem d_mo_humsOf_113 : decode prog_13_method_84_code 113 = .ok (.lstore 7, 2) := by decide +kernel
theorem d_mo_humsOf_115 : decode prog_13_method_84_code 115 = .ok (.lload 11, 2) := by decide +kernel
theorem d_mo_humsOf_117 : decode prog_13_method_84_code 117 = .ok (.iload 4, 2) := by decide +kernel
theorem d_mo_humsOf_119 : decode prog_13_method_84_code 119 = .ok (.iload 13, 2) := by decide +kernel
theorem d_mo_humsOf_121 : decode prog_13_method_84_code 121 = .ok (.isub, 1) := by decide +kernel
theorem d_mo_humsOf_122 : decode prog_13_method_84_code 122 = .ok (.i2l, 1) := by decide +kernel
theorem d_mo_humsOf_123 : decode prog_13_method_84_code 123 = .ok (.lmul, 1) := by decide +kernel
theorem d_mo_humsOf_124 : decode prog_13_method_84_code 124 = .ok (.iload 13, 2) := by decide +kernel
theorem d_mo_humsOf_126 : decode prog_13_method_84_code 126 = .ok (.iconst 1, 1) := by decide +kernel
theorem d_mo_humsOf_127 : decode prog_13_method_84_code 127 = .ok (.iadd, 1) := by decide +kernel
theorem d_mo_humsOf_128 : decode prog_13_method_84_code 128 = .ok (.i2l, 1) := by decide +kernel
theorem d_mo_humsOf_129 : decode prog_13_method_84_code 129 = .ok (.ldiv, 1) := by decide +kernel
theorem d_mo_humsOf_130 : decode prog_13_method_84_code 130 = .ok (.lstore 11, 2) := by decide +kernel
theorem d_mo_humsOf_132 : decode prog_13_method_84_code 132 = .ok (.aload_n 0, 1) := by decide +kernel
theorem d_mo_humsOf_133 : decode prog_13_method_84_code 133 = .ok (.bipush 6, 2) := by decide +kernel
theorem d_mo_humsOf_135 : decode prog_13_method_84_code 135 = .ok (.iload_n 3, 1) := by decide +kernel
theorem d_mo_humsOf_136 : decode prog_13_method_84_code 136 = .ok (.invokevirtual 183, 3) := by decide +kernel
theorem d_mo_humsOf_139 : decode prog_13_method_84_code 139 = .ok (.iinc 13 1, 3) := by decide +kernel
theorem d_mo_humsOf_142 : decode prog_13_method_84_code 142 = .ok (.goto (-99), 3) := by decide +kernel
theorem d_mo_humsOf_145 : decode prog_13_method_84_code 145 = .ok (.lload 7, 2) := by decide +kernel
theorem d_mo_humsOf_147 : decode prog_13_method_84_code 147 = .ok (.lload 9, 2) := by decide +kernel
theorem d_mo_humsOf_149 : decode prog_13_method_84_code 149 = .ok (.iload 6, 2) := by decide +kernel
theorem d_mo_humsOf_151 : decode prog_13_method_84_code 151 = .ok (.invokestatic 281, 3) := by decide +kernel
theorem d_mo_humsOf_154 : decode prog_13_method_84_code 154 = .ok (.lreturn, 1) := by decide +kernel
theorem d_mo_hums_0 : decode prog_13_method_85_code 0 = .ok (.aload_n 0, 1) := by decide +kernel
theorem d_mo_hums_1 : decode prog_13_method_85_code 1 = .ok (.invokevirtual 137, 3) := by decide +kernel
theorem d_mo_hums_4 : decode prog_13_method_85_code 4 = .ok (.iload_n 1, 1) := by decide +kernel
theorem d_mo_hums_5 : decode prog_13_method_85_code 5 = .ok (.i2l, 1) := by decide +kernel
theorem d_mo_hums_6 : decode prog_13_method_85_code 6 = .ok (.lconst 0, 1) := by decide +kernel
theorem d_mo_hums_7 : decode prog_13_method_85_code 7 = .ok (.ldc2_w 279, 3) := by decide +kernel
theorem d_mo_hums_10 : decode prog_13_method_85_code 10 = .ok (.invokestatic 79, 3) := by decide +kernel
theorem d_mo_hums_13 : decode prog_13_method_85_code 13 = .ok (.ifCond .eq 57, 3) := by decide +kernel
theorem d_mo_hums_16 : decode prog_13_method_85_code 16 = .ok (.aload_n 0, 1) := by decide +kernel
theorem d_mo_hums_17 : decode prog_13_method_85_code 17 = .ok (.iload_n 2, 1) := by decide +kernel
theorem d_mo_hums_18 : decode prog_13_method_85_code 18 = .ok (.invokevirtual 140, 3) := by decide +kernel
theorem d_mo_hums_21 : decode prog_13_method_85_code 21 = .ok (.ifCond .eq 49, 3) := by decide +kernel
theorem d_mo_hums_24 : decode prog_13_method_85_code 24 = .ok (.aload_n 0, 1) := by decide +kernel
theorem d_mo_hums_25 : decode prog_13_method_85_code 25 = .ok (.iload_n 3, 1) := by decide +kernel
theorem d_mo_hums_26 : decode prog_13_method_85_code 26 = .ok (.invokevirtual 147, 3) := by decide +kernel
theorem d_mo_hums_29 : decode prog_13_method_85_code 29 = .ok (.ifCond .eq 41, 3) := by decide +kernel
theorem d_mo_hums_32 : decode prog_13_method_85_code 32 = .ok (.iload 4, 2) := by decide +kernel
theorem d_mo_hums_34 : decode prog_13_method_85_code 34 = .ok (.i2l, 1) := by decide +kernel
theorem d_mo_hums_35 : decode prog_13_method_85_code 35 = .ok (.lconst 1, 1) := by decide +kernel
theorem d_mo_hums_36 : decode prog_13_method_85_code 36 = .ok (.ldc2_w 155, 3) := by decide +kernel
theorem d_mo_hums_39 : decode prog_13_method_85_code 39 = .ok (.invokestatic 79, 3) := by decide +kernel
theorem d_mo_hums_42 : decode prog_13_method_85_code 42 = .ok (.ifCond .eq 28, 3) := by decide +kernel
theorem d_mo_hums_45 : decode prog_13_method_85_code 45 = .ok (.iload 5, 2) := by decide +kernel
theorem d_mo_hums_47 : decode prog_13_method_85_code 47 = .ok (.i2l, 1) := by decide +kernel
theorem d_mo_hums_48 : decode prog_13_method_85_code 48 = .ok (.lconst 1, 1) := by decide +kernel
theorem d_mo_hums_49 : decode prog_13_method_85_code 49 = .ok (.ldc2_w 285, 3) := by decide +kernel
theorem d_mo_hums_52 : decode prog_13_method_85_code 52 = .ok (.invokestatic 79, 3) := by decide +kernel
theorem d_mo_hums_55 : decode prog_13_method_85_code 55 = .ok (.ifCond .eq 15, 3) := by decide +kernel
theorem d_mo_hums_58 : decode prog_13_method_85_code 58 = .ok (.iload 6, 2) := by decide +kernel
theorem d_mo_hums_60 : decode prog_13_method_85_code 60 = .ok (.invokestatic 107, 3) := by decide +kernel
theorem d_mo_hums_63 : decode prog_13_method_85_code 63 = .ok (.ifCond .eq 7, 3) := by decide +kernel
theorem d_mo_hums_66 : decode prog_13_method_85_code 66 = .ok (.iconst 1, 1) := by decide +kernel
theorem d_mo_hums_67 : decode prog_13_method_85_code 67 = .ok (.goto 4, 3) := by decide +kernel
theorem d_mo_hums_70 : decode prog_13_method_85_code 70 = .ok (.iconst 0, 1) := by decide +kernel
theorem d_mo_hums_71 : decode prog_13_method_85_code 71 = .ok (.istore 7, 2) := by decide +kernel
theorem d_mo_hums_73 : decode prog_13_method_85_code 73 = .ok (.iload 7, 2) := by decide +kernel
theorem d_mo_hums_75 : decode prog_13_method_85_code 75 = .ok (.ifCond .eq 19, 3) := by decide +kernel
theorem d_mo_hums_78 : decode prog_13_method_85_code 78 = .ok (.aload_n 0, 1) := by decide +kernel
theorem d_mo_hums_79 : decode prog_13_method_85_code 79 = .ok (.iload_n 1, 1) := by decide +kernel
theorem d_mo_hums_80 : decode prog_13_method_85_code 80 = .ok (.iload_n 2, 1) := by decide +kernel
theorem d_mo_hums_81 : decode prog_13_method_85_code 81 = .ok (.iload_n 3, 1) := by decide +kernel
theorem d_mo_hums_82 : decode prog_13_method_85_code 82 = .ok (.iload 4, 2) := by decide +kernel
theorem d_mo_hums_84 : decode prog_13_method_85_code 84 = .ok (.iload 5, 2) := by decide +kernel
theorem d_mo_hums_86 : decode prog_13_method_85_code 86 = .ok (.iload 6, 2) := by decide +kernel
theorem d_mo_hums_88 : decode prog_13_method_85_code 88 = .ok (.invokevirtual 287, 3) := by decide +kernel
theorem d_mo_hums_91 : decode prog_13_method_85_code 91 = .ok (.goto 8, 3) := by decide +kernel
theorem d_mo_hums_94 : decode prog_13_method_85_code 94 = .ok (.bipush (-2), 2) := by decide +kernel
theorem d_mo_hums_96 : decode prog_13_method_85_code 96 = .ok (.invokestatic 291, 3) := by decide +kernel
theorem d_mo_hums_99 : decode prog_13_method_85_code 99 = .ok (.lreturn, 1) := by decide +kernel
