theorem d_tl_far_0 : decode prog_1_method_21_code 0 = .ok (.aload_n 0, 1) := by decide +kernel
theorem d_tl_far_1 : decode prog_1_method_21_code 1 = .ok (.iload_n 1, 1) := by decide +kernel
theorem d_tl_far_2 : decode prog_1_method_21_code 2 = .ok (.invokevirtual 83, 3) := by decide +kernel
theorem d_tl_far_5 : decode prog_1_method_21_code 5 = .ok (.ifCond .eq 11, 3) := by decide +kernel
theorem d_tl_far_8 : decode prog_1_method_21_code 8 = .ok (.aload_n 0, 1) := by decide +kernel
theorem d_tl_far_9 : decode prog_1_method_21_code 9 = .ok (.iload_n 2, 1) := by decide +kernel
theorem d_tl_far_10 : decode prog_1_method_21_code 10 = .ok (.invokevirtual 83, 3) := by decide +kernel
theorem d_tl_far_13 : decode prog_1_method_21_code 13 = .ok (.ifCond .ne 6, 3) := by decide +kernel
theorem d_tl_far_16 : decode prog_1_method_21_code 16 = .ok (.bipush (-2), 2) := by decide +kernel
theorem d_tl_far_18 : decode prog_1_method_21_code 18 = .ok (.ireturn, 1) := by decide +kernel
theorem d_tl_far_19 : decode prog_1_method_21_code 19 = .ok (.aload_n 0, 1) := by decide +kernel
theorem d_tl_far_20 : decode prog_1_method_21_code 20 = .ok (.getfield 10, 3) := by decide +kernel
theorem d_tl_far_23 : decode prog_1_method_21_code 23 = .ok (.getfield 86, 3) := by decide +kernel
theorem d_tl_far_26 : decode prog_1_method_21_code 26 = .ok (.iload_n 1, 1) := by decide +kernel
theorem d_tl_far_27 : decode prog_1_method_21_code 27 = .ok (.aaload, 1) := by decide +kernel
theorem d_tl_far_28 : decode prog_1_method_21_code 28 = .ok (.getfield 90, 3) := by decide +kernel
theorem d_tl_far_31 : decode prog_1_method_21_code 31 = .ok (.aload_n 0, 1) := by decide +kernel
theorem d_tl_far_32 : decode prog_1_method_21_code 32 = .ok (.getfield 10, 3) := by decide +kernel
theorem d_tl_far_35 : decode prog_1_method_21_code 35 = .ok (.getfield 86, 3) := by decide +kernel
theorem d_tl_far_38 : decode prog_1_method_21_code 38 = .ok (.iload_n 2, 1) := by decide +kernel
theorem d_tl_far_39 : decode prog_1_method_21_code 39 = .ok (.aaload, 1) := by decide +kernel
theorem d_tl_far_40 : decode prog_1_method_21_code 40 = .ok (.getfield 90, 3) := by decide +kernel
theorem d_tl_far_43 : decode prog_1_method_21_code 43 = .ok (.iadd, 1) := by decide +kernel
theorem d_tl_far_44 : decode prog_1_method_21_code 44 = .ok (.iconst 2, 1) := by decide +kernel
theorem d_tl_far_45 : decode prog_1_method_21_code 45 = .ok (.aload_n 0, 1) := by decide +kernel
theorem d_tl_far_46 : decode prog_1_method_21_code 46 = .ok (.getfield 33, 3) := by decide +kernel
theorem d_tl_far_49 : decode prog_1_method_21_code 49 = .ok (.aload_n 0, 1) := by decide +kernel
theorem d_tl_far_50 : decode prog_1_method_21_code 50 = .ok (.getfield 10, 3) := by decide +kernel
theorem d_tl_far_53 : decode prog_1_method_21_code 53 = .ok (.getfield 86, 3) := by decide +kernel
theorem d_tl_far_56 : decode prog_1_method_21_code 56 = .ok (.iload_n 1, 1) := by decide +kernel
theorem d_tl_far_57 : decode prog_1_method_21_code 57 = .ok (.aaload, 1) := by decide +kernel
theorem d_tl_far_58 : decode prog_1_method_21_code 58 = .ok (.aload_n 0, 1) := by decide +kernel
theorem d_tl_far_59 : decode prog_1_method_21_code 59 = .ok (.getfield 10, 3) := by decide +kernel
theorem d_tl_far_62 : decode prog_1_method_21_code 62 = .ok (.getfield 86, 3) := by decide +kernel
theorem d_tl_far_65 : decode prog_1_method_21_code 65 = .ok (.iload_n 2, 1) := by decide +kernel
theorem d_tl_far_66 : decode prog_1_method_21_code 66 = .ok (.aaload, 1) := by decide +kernel
theorem d_tl_far_67 : decode prog_1_method_21_code 67 = .ok (.invokevirtual 221, 3) := by decide +kernel
theorem d_tl_far_70 : decode prog_1_method_21_code 70 = .ok (.imul, 1) := by decide +kernel
theorem d_tl_far_71 : decode prog_1_method_21_code 71 = .ok (.isub, 1) := by decide +kernel
theorem d_tl_far_72 : decode prog_1_method_21_code 72 = .ok (.ireturn, 1) := by decide +kernel
theorem d_tl_nearest_0 : decode prog_1_method_22_code 0 = .ok (.aload_n 0, 1) := by decide +kernel
theorem d_tl_nearest_1 : decode prog_1_method_22_code 1 = .ok (.iload_n 1, 1) := by decide +kernel
theorem d_tl_nearest_2 : decode prog_1_method_22_code 2 = .ok (.invokevirtual 83, 3) := by decide +kernel
theorem d_tl_nearest_5 : decode prog_1_method_22_code 5 = .ok (.ifCond .ne 6, 3) := by decide +kernel
theorem d_tl_nearest_8 : decode prog_1_method_22_code 8 = .ok (.bipush (-2), 2) := by decide +kernel
theorem d_tl_nearest_10 : decode prog_1_method_22_code 10 = .ok (.ireturn, 1) := by decide +kernel
theorem d_tl_nearest_11 : decode prog_1_method_22_code 11 = .ok (.iconst (-1), 1) := by decide +kernel
theorem d_tl_nearest_12 : decode prog_1_method_22_code 12 = .ok (.istore_n 2, 1) := by decide +kernel
theorem d_tl_nearest_13 : decode prog_1_method_22_code 13 = .ok (.iconst 0, 1) := by decide +kernel
theorem d_tl_nearest_14 : decode prog_1_method_22_code 14 = .ok (.istore_n 3, 1) := by decide +kernel
theorem d_tl_nearest_15 : decode prog_1_method_22_code 15 = .ok (.iconst 0, 1) := by decide +kernel
theorem d_tl_nearest_16 : decode prog_1_method_22_code 16 = .ok (.istore 4, 2) := by decide +kernel
theorem d_tl_nearest_18 : decode prog_1_method_22_code 18 = .ok (.iload 4, 2) := by decide +kernel
theorem d_tl_nearest_20 : decode prog_1_method_22_code 20 = .ok (.aload_n 0, 1) := by decide +kernel
theorem d_tl_nearest_21 : decode prog_1_method_22_code 21 = .ok (.getfield 10, 3) := by decide +kernel
theorem d_tl_nearest_24 : decode prog_1_method_22_code 24 = .ok (.getfield 225, 3) := by decide +kernel
theorem d_tl_nearest_27 : decode prog_1_method_22_code 27 = .ok (.if_icmp .ge 41, 3) := by decide +kernel
theorem d_tl_nearest_30 : decode prog_1_method_22_code 30 = .ok (.iload 4, 2) := by decide +kernel
theorem d_tl_nearest_32 : decode prog_1_method_22_code 32 = .ok (.iload_n 1, 1) := by decide +kernel
theorem d_tl_nearest_33 : decode prog_1_method_22_code 33 = .ok (.if_icmp .eq 29, 3) := by decide +kernel
theorem d_tl_nearest_36 : decode prog_1_method_22_code 36 = .ok (.aload_n 0, 1) := by decide +kernel
theorem d_tl_nearest_37 : decode prog_1_method_22_code 37 = .ok (.iload_n 1, 1) := by decide +kernel
theorem d_tl_nearest_38 : decode prog_1_method_22_code 38 = .ok (.iload 4, 2) := by decide +kernel
theorem d_tl_nearest_40 : decode prog_1_method_22_code 40 = .ok (.invokevirtual 228, 3) := by decide +kernel
theorem d_tl_nearest_43 : decode prog_1_method_22_code 43 = .ok (.istore 5, 2) := by decide +kernel
theorem d_tl_nearest_45 : decode prog_1_method_22_code 45 = .ok (.iload_n 2, 1) := by decide +kernel
theorem d_tl_nearest_46 : decode prog_1_method_22_code 46 = .ok (.iconst (-1), 1) := by decide +kernel
theorem d_tl_nearest_47 : decode prog_1_method_22_code 47 = .ok (.if_icmp .eq 9, 3) := by decide +kernel
theorem d_tl_nearest_50 : decode prog_1_method_22_code 50 = .ok (.iload 5, 2) := by decide +kernel
theorem d_tl_nearest_52 : decode prog_1_method_22_code 52 = .ok (.iload_n 3, 1) := by decide +kernel
theorem d_tl_nearest_53 : decode prog_1_method_22_code 53 = .ok (.if_icmp .ge 9, 3) := by decide +kernel
theorem d_tl_nearest_56 : decode prog_1_method_22_code 56 = .ok (.iload 4, 2) := by decide +kernel
theorem d_tl_nearest_58 : decode prog_1_method_22_code 58 = .ok (.istore_n 2, 1) := by decide +kernel
theorem d_tl_nearest_59 : decode prog_1_method_22_code 59 = .ok (.iload 5, 2) := by decide +kernel
theorem d_tl_nearest_61 : decode prog_1_method_22_code 61 = .ok (.istore_n 3, 1) := by decide +kernel
theorem d_tl_nearest_62 : decode prog_1_method_22_code 62 = .ok (.iinc 4 1, 3) := by decide +kernel
theorem d_tl_nearest_65 : decode prog_1_method_22_code 65 = .ok (.goto (-47), 3) := by decide +kernel
theorem d_tl_nearest_68 : decode prog_1_method_22_code 68 = .ok (.iload_n 2, 1) := by decide +kernel
theorem d_tl_nearest_69 : decode prog_1_method_22_code 69 = .ok (.ireturn, 1) := by decide +kernel
theorem d_tl_mothers_0 : decode prog_1_method_23_code 0 = .ok (.aload_n 0, 1) := by decide +kernel
theorem d_tl_mothers_1 : decode prog_1_method_23_code 1 = .ok (.iload_n 1, 1) := by decide +kernel
theorem d_tl_mothers_2 : decode prog_1_method_23_code 2 = .ok (.invokevirtual 83, 3) := by decide +kernel
theorem d_tl_mothers_5 : decode prog_1_method_23_code 5 = .ok (.ifCond .ne 6, 3) := by decide +kernel
theorem d_tl_mothers_8 : decode prog_1_method_23_code 8 = .ok (.bipush (-2), 2) := by decide +kernel
theorem d_tl_mothers_10 : decode prog_1_method_23_code 10 = .ok (.ireturn, 1) := by decide +kernel
theorem d_tl_mothers_11 : decode prog_1_method_23_code 11 = .ok (.iconst 0, 1) := by decide +kernel
theorem d_tl_mothers_12 : decode prog_1_method_23_code 12 = .ok (.istore_n 2, 1) := by decide +kernel
theorem d_tl_mothers_13 : decode prog_1_method_23_code 13 = .ok (.iconst 0, 1) := by decide +kernel
theorem d_tl_mothers_14 : decode prog_1_method_23_code 14 = .ok (.istore_n 3, 1) := by decide +kernel
theorem d_tl_mothers_15 : decode prog_1_method_23_code 15 = .ok (.iload_n 3, 1) := by decide +kernel
theorem d_tl_mothers_16 : decode prog_1_method_23_code 16 = .ok (.aload_n 0, 1) := by decide +kernel
theorem d_tl_mothers_17 : decode prog_1_method_23_code 17 = .ok (.getfield 10, 3) := by decide +kernel
theorem d_tl_mothers_20 : decode prog_1_method_23_code 20 = .ok (.getfield 225, 3) := by decide +kernel
theorem d_tl_mothers_23 : decode prog_1_method_23_code 23 = .ok (.if_icmp .ge 57, 3) := by decide +kernel
theorem d_tl_mothers_26 : decode prog_1_method_23_code 26 = .ok (.aload_n 0, 1) := by decide +kernel
theorem d_tl_mothers_27 : decode prog_1_method_23_code 27 = .ok (.getfield 10, 3) := by decide +kernel
theorem d_tl_mothers_30 : decode prog_1_method_23_code 30 = .ok (.getfield 86, 3) := by decide +kernel
theorem d_tl_mothers_33 : decode prog_1_method_23_code 33 = .ok (.iload_n 3, 1) := by decide +kernel
theorem d_tl_mothers_34 : decode prog_1_method_23_code 34 = .ok (.aaload, 1) := by decide +kernel
theorem d_tl_mothers_35 : decode prog_1_method_23_code 35 = .ok (.astore 4, 2) := by decide +kernel
theorem d_tl_mothers_37 : decode prog_1_method_23_code 37 = .ok (.iload_n 3, 1) := by decide +kernel
theorem d_tl_mothers_38 : decode prog_1_method_23_code 38 = .ok (.iload_n 1, 1) := by decide +kernel
theorem d_tl_mothers_39 : decode prog_1_method_23_code 39 = .ok (.if_icmp .eq 35, 3) := by decide +kernel
theorem d_tl_mothers_42 : decode prog_1_method_23_code 42 = .ok (.aload_n 0, 1) := by decide +kernel
theorem d_tl_mothers_43 : decode prog_1_method_23_code 43 = .ok (.getfield 33, 3) := by decide +kernel
theorem d_tl_mothers_46 : decode prog_1_method_23_code 46 = .ok (.aload 4, 2) := by decide +kernel
theorem d_tl_mothers_48 : decode prog_1_method_23_code 48 = .ok (.aload_n 0, 1) := by decide +kernel
theorem d_tl_mothers_49 : decode prog_1_method_23_code 49 = .ok (.getfield 10, 3) := by decide +kernel
theorem d_tl_mothers_52 : decode prog_1_method_23_code 52 = .ok (.getfield 86, 3) := by decide +kernel
theorem d_tl_mothers_55 : decode prog_1_method_23_code 55 = .ok (.iload_n 1, 1) := by decide +kernel
theorem d_tl_mothers_56 : decode prog_1_method_23_code 56 = .ok (.aaload, 1) := by decide +kernel
theorem d_tl_mothers_57 : decode prog_1_method_23_code 57 = .ok (.invokevirtual 221, 3) := by decide +kernel
theorem d_tl_mothers_60 : decode prog_1_method_23_code 60 = .ok (.aload 4, 2) := by decide +kernel
theorem d_tl_mothers_62 : decode prog_1_method_23_code 62 = .ok (.getfield 90, 3) := by decide +kernel
theorem d_tl_mothers_65 : decode prog_1_method_23_code 65 = .ok (.if_icmp .ne 9, 3) := by decide +kernel
theorem d_tl_mothers_68 : decode prog_1_method_23_code 68 = .ok (.iload_n 2, 1) := by decide +kernel
theorem d_tl_mothers_69 : decode prog_1_method_23_code 69 = .ok (.iconst 1, 1) := by decide +kernel
theorem d_tl_mothers_70 : decode prog_1_method_23_code 70 = .ok (.iload_n 3, 1) := by decide +kernel
theorem d_tl_mothers_71 : decode prog_1_method_23_code 71 = .ok (.ishl, 1) := by decide +kernel
theorem d_tl_mothers_72 : decode prog_1_method_23_code 72 = .ok (.ior, 1) := by decide +kernel
theorem d_tl_mothers_73 : decode prog_1_method_23_code 73 = .ok (.istore_n 2, 1) := by decide +kernel
theorem d_tl_mothers_74 : decode prog_1_method_23_code 74 = .ok (.iinc 3 1, 3) := by decide +kernel
theorem d_tl_mothers_77 : decode prog_1_method_23_code 77 = .ok (.goto (-62), 3) := by decide +kernel
theorem d_tl_mothers_80 : decode prog_1_method_23_code 80 = .ok (.iload_n 2, 1) := by decide +kernel
theorem d_tl_mothers_81 : decode prog_1_method_23_code 81 = .ok (.ireturn, 1) := by decide +kernel
theorem d_tl_tells_0 : decode prog_1_method_24_code 0 = .ok (.aload_n 0, 1) := by decide +kernel
theorem d_tl_tells_1 : decode prog_1_method_24_code 1 = .ok (.iload_n 1, 1) := by decide +kernel
theorem d_tl_tells_2 : decode prog_1_method_24_code 2 = .ok (.invokevirtual 83, 3) := by decide +kernel
theorem d_tl_tells_5 : decode prog_1_method_24_code 5 = .ok (.ifCond .eq 12, 3) := by decide +kernel
theorem d_tl_tells_8 : decode prog_1_method_24_code 8 = .ok (.iload_n 2, 1) := by decide +kernel
theorem d_tl_tells_9 : decode prog_1_method_24_code 9 = .ok (.iconst 0, 1) := by decide +kernel
theorem d_tl_tells_10 : decode prog_1_method_24_code 10 = .ok (.iconst 1, 1) := by decide +kernel
theorem d_tl_tells_11 : decode prog_1_method_24_code 11 = .ok (.invokestatic 59, 3) := by decide +kernel
theorem d_tl_tells_14 : decode prog_1_method_24_code 14 = .ok (.ifCond .ne 6, 3) := by decide +kernel
theorem d_tl_tells_17 : decode prog_1_method_24_code 17 = .ok (.bipush (-2), 2) := by decide +kernel
theorem d_tl_tells_19 : decode prog_1_method_24_code 19 = .ok (.ireturn, 1) := by decide +kernel
theorem d_tl_tells_20 : decode prog_1_method_24_code 20 = .ok (.bipush 13, 2) := by decide +kernel
theorem d_tl_tells_22 : decode prog_1_method_24_code 22 = .ok (.istore_n 3, 1) := by decide +kernel
theorem d_tl_tells_23 : decode prog_1_method_24_code 23 = .ok (.iconst (-1), 1) := by decide +kernel
theorem d_tl_tells_24 : decode prog_1_method_24_code 24 = .ok (.istore 4, 2) := by decide +kernel
theorem d_tl_tells_26 : decode prog_1_method_24_code 26 = .ok (.iconst 0, 1) := by decide +kernel
theorem d_tl_tells_27 : decode prog_1_method_24_code 27 = .ok (.istore 5, 2) := by decide +kernel
theorem d_tl_tells_29 : decode prog_1_method_24_code 29 = .ok (.iload 5, 2) := by decide +kernel
theorem d_tl_tells_31 : decode prog_1_method_24_code 31 = .ok (.sipush 4096, 3) := by decide +kernel
theorem d_tl_tells_34 : decode prog_1_method_24_code 34 = .ok (.if_icmp .ge 39, 3) := by decide +kernel
theorem d_tl_tells_37 : decode prog_1_method_24_code 37 = .ok (.iload 5, 2) := by decide +kernel
theorem d_tl_tells_39 : decode prog_1_method_24_code 39 = .ok (.invokestatic 231, 3) := by decide +kernel
theorem d_tl_tells_42 : decode prog_1_method_24_code 42 = .ok (.istore 6, 2) := by decide +kernel
theorem d_tl_tells_44 : decode prog_1_method_24_code 44 = .ok (.iload 6, 2) := by decide +kernel
theorem d_tl_tells_46 : decode prog_1_method_24_code 46 = .ok (.iload_n 3, 1) := by decide +kernel
theorem d_tl_tells_47 : decode prog_1_method_24_code 47 = .ok (.if_icmp .ge 20, 3) := by decide +kernel
theorem d_tl_tells_50 : decode prog_1_method_24_code 50 = .ok (.aload_n 0, 1) := by decide +kernel
theorem d_tl_tells_51 : decode prog_1_method_24_code 51 = .ok (.iload_n 1, 1) := by decide +kernel
theorem d_tl_tells_52 : decode prog_1_method_24_code 52 = .ok (.iload 5, 2) := by decide +kernel
theorem d_tl_tells_54 : decode prog_1_method_24_code 54 = .ok (.invokevirtual 236, 3) := by decide +kernel
theorem d_tl_tells_57 : decode prog_1_method_24_code 57 = .ok (.ifCond .eq 10, 3) := by decide +kernel
theorem d_tl_tells_60 : decode prog_1_method_24_code 60 = .ok (.iload 6, 2) := by decide +kernel
theorem d_tl_tells_62 : decode prog_1_method_24_code 62 = .ok (.istore_n 3, 1) := by decide +kernel
theorem d_tl_tells_63 : decode prog_1_method_24_code 63 = .ok (.iload 5, 2) := by decide +kernel
theorem d_tl_tells_65 : decode prog_1_method_24_code 65 = .ok (.istore 4, 2) := by decide +kernel
theorem d_tl_tells_67 : decode prog_1_method_24_code 67 = .ok (.iinc 5 1, 3) := by decide +kernel
theorem d_tl_tells_70 : decode prog_1_method_24_code 70 = .ok (.goto (-41), 3) := by decide +kernel
theorem d_tl_tells_73 : decode prog_1_method_24_code 73 = .ok (.iload 4, 2) := by decide +kernel
theorem d_tl_tells_75 : decode prog_1_method_24_code 75 = .ok (.iconst (-1), 1) := by decide +kernel
theorem d_tl_tells_76 : decode prog_1_method_24_code 76 = .ok (.if_icmp .eq 8, 3) := by decide +kernel
theorem d_tl_tells_79 : decode prog_1_method_24_code 79 = .ok (.iload_n 2, 1) := by decide +kernel
theorem d_tl_tells_80 : decode prog_1_method_24_code 80 = .ok (.iconst 1, 1) := by decide +kernel
theorem d_tl_tells_81 : decode prog_1_method_24_code 81 = .ok (.if_icmp .ne 8, 3) := by decide +kernel
theorem d_tl_tells_84 : decode prog_1_method_24_code 84 = .ok (.iload 4, 2) := by decide +kernel
theorem d_tl_tells_86 : decode prog_1_method_24_code 86 = .ok (.goto 4, 3) := by decide +kernel
theorem d_tl_tells_89 : decode prog_1_method_24_code 89 = .ok (.iload_n 3, 1) := by decide +kernel
theorem d_tl_tells_90 : decode prog_1_method_24_code 90 = .ok (.ireturn, 1) := by decide +kernel
theorem d_tl_loses_0 : decode prog_1_method_25_code 0 = .ok (.iload_n 1, 1) := by decide +kernel
theorem d_tl_loses_1 : decode prog_1_method_25_code 1 = .ok (.invokestatic 159, 3) := by decide +kernel
theorem d_tl_loses_4 : decode prog_1_method_25_code 4 = .ok (.ifCond .eq 21, 3) := by decide +kernel
theorem d_tl_loses_7 : decode prog_1_method_25_code 7 = .ok (.aload_n 0, 1) := by decide +kernel
theorem d_tl_loses_8 : decode prog_1_method_25_code 8 = .ok (.iconst 0, 1) := by decide +kernel
theorem d_tl_loses_9 : decode prog_1_method_25_code 9 = .ok (.bipush 39, 2) := by decide +kernel
theorem d_tl_loses_11 : decode prog_1_method_25_code 11 = .ok (.invokevirtual 186, 3) := by decide +kernel
theorem d_tl_loses_14 : decode prog_1_method_25_code 14 = .ok (.aload_n 0, 1) := by decide +kernel
theorem d_tl_loses_15 : decode prog_1_method_25_code 15 = .ok (.iload_n 1, 1) := by decide +kernel
theorem d_tl_loses_16 : decode prog_1_method_25_code 16 = .ok (.bipush 39, 2) := by decide +kernel
theorem d_tl_loses_18 : decode prog_1_method_25_code 18 = .ok (.invokevirtual 186, 3) := by decide +kernel
theorem d_tl_loses_21 : decode prog_1_method_25_code 21 = .ok (.isub, 1) := by decide +kernel
theorem d_tl_loses_22 : decode prog_1_method_25_code 22 = .ok (.goto 6, 3) := by decide +kernel
theorem d_tl_loses_25 : decode prog_1_method_25_code 25 = .ok (.sipush (-1002), 3) := by decide +kernel
theorem d_tl_loses_28 : decode prog_1_method_25_code 28 = .ok (.ireturn, 1) := by decide +kernel
theorem d_tl_best_0 : decode prog_1_method_26_code 0 = .ok (.iload_n 1, 1) := by decide +kernel
theorem d_tl_best_1 : decode prog_1_method_26_code 1 = .ok (.iconst 0, 1) := by decide +kernel
theorem d_tl_best_2 : decode prog_1_method_26_code 2 = .ok (.sipush 240, 3) := by decide +kernel
theorem d_tl_best_5 : decode prog_1_method_26_code 5 = .ok (.invokestatic 59, 3) := by decide +kernel
theorem d_tl_best_8 : decode prog_1_method_26_code 8 = .ok (.ifCond .ne 6, 3) := by decide +kernel
theorem d_tl_best_11 : decode prog_1_method_26_code 11 = .ok (.bipush (-2), 2) := by decide +kernel
theorem d_tl_best_13 : decode prog_1_method_26_code 13 = .ok (.ireturn, 1) := by decide +kernel
theorem d_tl_best_14 : decode prog_1_method_26_code 14 = .ok (.bipush 12, 2) := by decide +kernel
theorem d_tl_best_16 : decode prog_1_method_26_code 16 = .ok (.istore_n 2, 1) := by decide +kernel
theorem d_tl_best_17 : decode prog_1_method_26_code 17 = .ok (.iload_n 2, 1) := by decide +kernel
theorem d_tl_best_18 : decode prog_1_method_26_code 18 = .ok (.ifCond .lt 22, 3) := by decide +kernel
theorem d_tl_best_21 : decode prog_1_method_26_code 21 = .ok (.aload_n 0, 1) := by decide +kernel
theorem d_tl_best_22 : decode prog_1_method_26_code 22 = .ok (.iload_n 2, 1) := by decide +kernel
theorem d_tl_best_23 : decode prog_1_method_26_code 23 = .ok (.bipush 39, 2) := by decide +kernel
theorem d_tl_best_25 : decode prog_1_method_26_code 25 = .ok (.invokevirtual 186, 3) := by decide +kernel
theorem d_tl_best_28 : decode prog_1_method_26_code 28 = .ok (.iload_n 1, 1) := by decide +kernel
theorem d_tl_best_29 : decode prog_1_method_26_code 29 = .ok (.if_icmp .lt 5, 3) := by decide +kernel
theorem d_tl_best_32 : decode prog_1_method_26_code 32 = .ok (.iload_n 2, 1) := by decide +kernel
theorem d_tl_best_33 : decode prog_1_method_26_code 33 = .ok (.ireturn, 1) := by decide +kernel
theorem d_tl_best_34 : decode prog_1_method_26_code 34 = .ok (.iinc 2 (-1), 3) := by decide +kernel
theorem d_tl_best_37 : decode prog_1_method_26_code 37 = .ok (.goto (-20), 3) := by decide +kernel
theorem d_tl_best_40 : decode prog_1_method_26_code 40 = .ok (.iconst (-1), 1) := by decide +kernel
theorem d_tl_best_41 : decode prog_1_method_26_code 41 = .ok (.ireturn, 1) := by decide +kernel
theorem d_tl_hums_0 : decode prog_1_method_27_code 0 = .ok (.iload_n 1, 1) := by decide +kernel
theorem d_tl_hums_1 : decode prog_1_method_27_code 1 = .ok (.iconst 0, 1) := by decide +kernel
theorem d_tl_hums_2 : decode prog_1_method_27_code 2 = .ok (.bipush 16, 2) := by decide +kernel
theorem d_tl_hums_4 : decode prog_1_method_27_code 4 = .ok (.invokestatic 59, 3) := by decide +kernel
theorem d_tl_hums_7 : decode prog_1_method_27_code 7 = .ok (.ifCond .eq 51, 3) := by decide +kernel
theorem d_tl_hums_10 : decode prog_1_method_27_code 10 = .ok (.aload_n 0, 1) := by decide +kernel
theorem d_tl_hums_11 : decode prog_1_method_27_code 11 = .ok (.iload_n 2, 1) := by decide +kernel
theorem d_tl_hums_12 : decode prog_1_method_27_code 12 = .ok (.invokevirtual 83, 3) := by decide +kernel
theorem d_tl_hums_15 : decode prog_1_method_27_code 15 = .ok (.ifCond .eq 43, 3) := by decide +kernel
theorem d_tl_hums_18 : decode prog_1_method_27_code 18 = .ok (.aload_n 0, 1) := by decide +kernel
theorem d_tl_hums_19 : decode prog_1_method_27_code 19 = .ok (.iload_n 3, 1) := by decide +kernel
theorem d_tl_hums_20 : decode prog_1_method_27_code 20 = .ok (.invokevirtual 97, 3) := by decide +kernel
theorem d_tl_hums_23 : decode prog_1_method_27_code 23 = .ok (.ifCond .eq 35, 3) := by decide +kernel
theorem d_tl_hums_26 : decode prog_1_method_27_code 26 = .ok (.iload 4, 2) := by decide +kernel
theorem d_tl_hums_28 : decode prog_1_method_27_code 28 = .ok (.iconst 1, 1) := by decide +kernel
theorem d_tl_hums_29 : decode prog_1_method_27_code 29 = .ok (.bipush 9, 2) := by decide +kernel
theorem d_tl_hums_31 : decode prog_1_method_27_code 31 = .ok (.invokestatic 59, 3) := by decide +kernel
theorem d_tl_hums_34 : decode prog_1_method_27_code 34 = .ok (.ifCond .eq 24, 3) := by decide +kernel
theorem d_tl_hums_37 : decode prog_1_method_27_code 37 = .ok (.iload 5, 2) := by decide +kernel
theorem d_tl_hums_39 : decode prog_1_method_27_code 39 = .ok (.iconst 1, 1) := by decide +kernel
theorem d_tl_hums_40 : decode prog_1_method_27_code 40 = .ok (.bipush 40, 2) := by decide +kernel
theorem d_tl_hums_42 : decode prog_1_method_27_code 42 = .ok (.invokestatic 59, 3) := by decide +kernel
theorem d_tl_hums_45 : decode prog_1_method_27_code 45 = .ok (.ifCond .eq 13, 3) := by decide +kernel
theorem d_tl_hums_48 : decode prog_1_method_27_code 48 = .ok (.iload 6, 2) := by decide +kernel
theorem d_tl_hums_50 : decode prog_1_method_27_code 50 = .ok (.iconst 0, 1) := by decide +kernel
theorem d_tl_hums_51 : decode prog_1_method_27_code 51 = .ok (.iconst 1, 1) := by decide +kernel
theorem d_tl_hums_52 : decode prog_1_method_27_code 52 = .ok (.invokestatic 59, 3) := by decide +kernel
theorem d_tl_hums_55 : decode prog_1_method_27_code 55 = .ok (.ifCond .ne 7, 3) := by decide +kernel
theorem d_tl_hums_58 : decode prog_1_method_27_code 58 = .ok (.ldc2_w 240, 3) := by decide +kernel
theorem d_tl_hums_61 : decode prog_1_method_27_code 61 = .ok (.lreturn, 1) := by decide +kernel
theorem d_tl_hums_62 : decode prog_1_method_27_code 62 = .ok (.aload_n 0, 1) := by decide +kernel
theorem d_tl_hums_63 : decode prog_1_method_27_code 63 = .ok (.getfield 40, 3) := by decide +kernel
theorem d_tl_hums_66 : decode prog_1_method_27_code 66 = .ok (.iload_n 1, 1) := by decide +kernel
theorem d_tl_hums_67 : decode prog_1_method_27_code 67 = .ok (.iload 4, 2) := by decide +kernel
theorem d_tl_hums_69 : decode prog_1_method_27_code 69 = .ok (.invokevirtual 242, 3) := by decide +kernel
theorem d_tl_hums_72 : decode prog_1_method_27_code 72 = .ok (.aload_n 0, 1) := by decide +kernel
theorem d_tl_hums_73 : decode prog_1_method_27_code 73 = .ok (.getfield 40, 3) := by decide +kernel
theorem d_tl_hums_76 : decode prog_1_method_27_code 76 = .ok (.aload_n 0, 1) := by decide +kernel
theorem d_tl_hums_77 : decode prog_1_method_27_code 77 = .ok (.getfield 10, 3) := by decide +kernel
theorem d_tl_hums_80 : decode prog_1_method_27_code 80 = .ok (.getfield 86, 3) := by decide +kernel
theorem d_tl_hums_83 : decode prog_1_method_27_code 83 = .ok (.iload_n 2, 1) := by decide +kernel
theorem d_tl_hums_84 : decode prog_1_method_27_code 84 = .ok (.aaload, 1) := by decide +kernel
theorem d_tl_hums_85 : decode prog_1_method_27_code 85 = .ok (.aload_n 0, 1) := by decide +kernel
theorem d_tl_hums_86 : decode prog_1_method_27_code 86 = .ok (.getfield 10, 3) := by decide +kernel
theorem d_tl_hums_89 : decode prog_1_method_27_code 89 = .ok (.getfield 100, 3) := by decide +kernel
theorem d_tl_hums_92 : decode prog_1_method_27_code 92 = .ok (.iload_n 3, 1) := by decide +kernel
theorem d_tl_hums_93 : decode prog_1_method_27_code 93 = .ok (.aaload, 1) := by decide +kernel
theorem d_tl_hums_94 : decode prog_1_method_27_code 94 = .ok (.iload 4, 2) := by decide +kernel
theorem d_tl_hums_96 : decode prog_1_method_27_code 96 = .ok (.iload 5, 2) := by decide +kernel
theorem d_tl_hums_98 : decode prog_1_method_27_code 98 = .ok (.invokevirtual 246, 3) := by decide +kernel
theorem d_tl_hums_101 : decode prog_1_method_27_code 101 = .ok (.lstore 7, 2) := by decide +kernel
theorem d_tl_hums_103 : decode prog_1_method_27_code 103 = .ok (.iconst 4, 1) := by decide +kernel
theorem d_tl_hums_104 : decode prog_1_method_27_code 104 = .ok (.iload 4, 2) := by decide +kernel
theorem d_tl_hums_106 : decode prog_1_method_27_code 106 = .ok (.imul, 1) := by decide +kernel
theorem d_tl_hums_107 : decode prog_1_method_27_code 107 = .ok (.istore 9, 2) := by decide +kernel
theorem d_tl_hums_109 : decode prog_1_method_27_code 109 = .ok (.lconst 1, 1) := by decide +kernel
theorem d_tl_hums_110 : decode prog_1_method_27_code 110 = .ok (.iload 9, 2) := by decide +kernel
theorem d_tl_hums_112 : decode prog_1_method_27_code 112 = .ok (.lshl, 1) := by decide +kernel
theorem d_tl_hums_113 : decode prog_1_method_27_code 113 = .ok (.lstore 10, 2) := by decide +kernel
theorem d_tl_hums_115 : decode prog_1_method_27_code 115 = .ok (.iconst 0, 1) := by decide +kernel
theorem d_tl_hums_116 : decode prog_1_method_27_code 116 = .ok (.istore 12, 2) := by decide +kernel
theorem d_tl_hums_118 : decode prog_1_method_27_code 118 = .ok (.iload 12, 2) := by decide +kernel
theorem d_tl_hums_120 : decode prog_1_method_27_code 120 = .ok (.iload 9, 2) := by decide +kernel
theorem d_tl_hums_122 : decode prog_1_method_27_code 122 = .ok (.if_icmp .ge 36, 3) := by decide +kernel
theorem d_tl_hums_125 : decode prog_1_method_27_code 125 = .ok (.lload 7, 2) := by decide +kernel
theorem d_tl_hums_127 : decode prog_1_method_27_code 127 = .ok (.ldc2_w 250, 3) := by decide +kernel
theorem d_tl_hums_130 : decode prog_1_method_27_code 130 = .ok (.lrem, 1) := by decide +kernel
theorem d_tl_hums_131 : decode prog_1_method_27_code 131 = .ok (.lconst 0, 1) := by decide +kernel
theorem d_tl_hums_132 : decode prog_1_method_27_code 132 = .ok (.lcmp, 1) := by decide +kernel
theorem d_tl_hums_133 : decode prog_1_method_27_code 133 = .ok (.ifCond .ne 25, 3) := by decide +kernel
theorem d_tl_hums_136 : decode prog_1_method_27_code 136 = .ok (.lload 7, 2) := by decide +kernel
theorem d_tl_hums_138 : decode prog_1_method_27_code 138 = .ok (.ldc2_w 250, 3) := by decide +kernel
theorem d_tl_hums_141 : decode prog_1_method_27_code 141 = .ok (.ldiv, 1) := by decide +kernel
theorem d_tl_hums_142 : decode prog_1_method_27_code 142 = .ok (.lstore 7, 2) := by decide +kernel
theorem d_tl_hums_144 : decode prog_1_method_27_code 144 = .ok (.lload 10, 2) := by decide +kernel
theorem d_tl_hums_146 : decode prog_1_method_27_code 146 = .ok (.ldc2_w 250, 3) := by decide +kernel
theorem d_tl_hums_149 : decode prog_1_method_27_code 149 = .ok (.ldiv, 1) := by decide +kernel
theorem d_tl_hums_150 : decode prog_1_method_27_code 150 = .ok (.lstore 10, 2) := by decide +kernel
theorem d_tl_hums_152 : decode prog_1_method_27_code 152 = .ok (.iinc 12 1, 3) := by decide +kernel
theorem d_tl_hums_155 : decode prog_1_method_27_code 155 = .ok (.goto (-37), 3) := by decide +kernel
theorem d_tl_hums_158 : decode prog_1_method_27_code 158 = .ok (.iload 6, 2) := by decide +kernel
theorem d_tl_hums_160 : decode prog_1_method_27_code 160 = .ok (.ifCond .ne 8, 3) := by decide +kernel
theorem d_tl_hums_163 : decode prog_1_method_27_code 163 = .ok (.lload 7, 2) := by decide +kernel
theorem d_tl_hums_165 : decode prog_1_method_27_code 165 = .ok (.goto 5, 3) := by decide +kernel
theorem d_tl_hums_168 : decode prog_1_method_27_code 168 = .ok (.lload 10, 2) := by decide +kernel
theorem d_tl_hums_170 : decode prog_1_method_27_code 170 = .ok (.lreturn, 1) := by decide +kernel
theorem d_tl_fair_0 : decode prog_1_method_28_code 0 = .ok (.iload_n 2, 1) := by decide +kernel
theorem d_tl_fair_1 : decode prog_1_method_28_code 1 = .ok (.iconst 1, 1) := by decide +kernel
theorem d_tl_fair_2 : decode prog_1_method_28_code 2 = .ok (.bipush 40, 2) := by decide +kernel
theorem d_tl_fair_4 : decode prog_1_method_28_code 4 = .ok (.invokestatic 59, 3) := by decide +kernel
theorem d_tl_fair_7 : decode prog_1_method_28_code 7 = .ok (.ifCond .eq 28, 3) := by decide +kernel
theorem d_tl_fair_10 : decode prog_1_method_28_code 10 = .ok (.aload_n 0, 1) := by decide +kernel
theorem d_tl_fair_11 : decode prog_1_method_28_code 11 = .ok (.iload_n 3, 1) := by decide +kernel
theorem d_tl_fair_12 : decode prog_1_method_28_code 12 = .ok (.invokevirtual 83, 3) := by decide +kernel
theorem d_tl_fair_15 : decode prog_1_method_28_code 15 = .ok (.ifCond .eq 20, 3) := by decide +kernel
theorem d_tl_fair_18 : decode prog_1_method_28_code 18 = .ok (.aload_n 0, 1) := by decide +kernel
theorem d_tl_fair_19 : decode prog_1_method_28_code 19 = .ok (.getfield 40, 3) := by decide +kernel
theorem d_tl_fair_22 : decode prog_1_method_28_code 22 = .ok (.aload_n 0, 1) := by decide +kernel
theorem d_tl_fair_23 : decode prog_1_method_28_code 23 = .ok (.getfield 10, 3) := by decide +kernel
theorem d_tl_fair_26 : decode prog_1_method_28_code 26 = .ok (.iload_n 1, 1) := by decide +kernel
theorem d_tl_fair_27 : decode prog_1_method_28_code 27 = .ok (.iload_n 2, 1) := by decide +kernel
theorem d_tl_fair_28 : decode prog_1_method_28_code 28 = .ok (.iload_n 3, 1) := by decide +kernel
theorem d_tl_fair_29 : decode prog_1_method_28_code 29 = .ok (.invokevirtual 252, 3) := by decide +kernel
theorem d_tl_fair_32 : decode prog_1_method_28_code 32 = .ok (.goto 5, 3) := by decide +kernel
theorem d_tl_fair_35 : decode prog_1_method_28_code 35 = .ok (.bipush (-2), 2) := by decide +kernel
theorem d_tl_fair_37 : decode prog_1_method_28_code 37 = .ok (.ireturn, 1) := by decide +kernel
theorem d_tl_sheet_0 : decode prog_1_method_29_code 0 = .ok (.iload_n 1, 1) := by decide +kernel
theorem d_tl_sheet_1 : decode prog_1_method_29_code 1 = .ok (.invokestatic 141, 3) := by decide +kernel
theorem d_tl_sheet_4 : decode prog_1_method_29_code 4 = .ok (.ifCond .eq 16, 3) := by decide +kernel
theorem d_tl_sheet_7 : decode prog_1_method_29_code 7 = .ok (.iload_n 2, 1) := by decide +kernel
theorem d_tl_sheet_8 : decode prog_1_method_29_code 8 = .ok (.invokestatic 255, 3) := by decide +kernel
theorem d_tl_sheet_11 : decode prog_1_method_29_code 11 = .ok (.ifCond .eq 9, 3) := by decide +kernel
theorem d_tl_sheet_14 : decode prog_1_method_29_code 14 = .ok (.iload_n 3, 1) := by decide +kernel
theorem d_tl_sheet_15 : decode prog_1_method_29_code 15 = .ok (.bipush 60, 2) := by decide +kernel
theorem d_tl_sheet_17 : decode prog_1_method_29_code 17 = .ok (.if_icmp .le 6, 3) := by decide +kernel
theorem d_tl_sheet_20 : decode prog_1_method_29_code 20 = .ok (.bipush (-2), 2) := by decide +kernel
theorem d_tl_sheet_22 : decode prog_1_method_29_code 22 = .ok (.ireturn, 1) := by decide +kernel
theorem d_tl_sheet_23 : decode prog_1_method_29_code 23 = .ok (.iload_n 3, 1) := by decide +kernel
theorem d_tl_sheet_24 : decode prog_1_method_29_code 24 = .ok (.ifCond .ge 9, 3) := by decide +kernel
theorem d_tl_sheet_27 : decode prog_1_method_29_code 27 = .ok (.aload_n 0, 1) := by decide +kernel
theorem d_tl_sheet_28 : decode prog_1_method_29_code 28 = .ok (.iconst 5, 1) := by decide +kernel
theorem d_tl_sheet_29 : decode prog_1_method_29_code 29 = .ok (.invokevirtual 148, 3) := by decide +kernel
theorem d_tl_sheet_32 : decode prog_1_method_29_code 32 = .ok (.ireturn, 1) := by decide +kernel
theorem d_tl_sheet_33 : decode prog_1_method_29_code 33 = .ok (.aload_n 0, 1) := by decide +kernel
theorem d_tl_sheet_34 : decode prog_1_method_29_code 34 = .ok (.getfield 46, 3) := by decide +kernel
theorem d_tl_sheet_37 : decode prog_1_method_29_code 37 = .ok (.iload_n 1, 1) := by decide +kernel
theorem d_tl_sheet_38 : decode prog_1_method_29_code 38 = .ok (.aaload, 1) := by decide +kernel
theorem d_tl_sheet_39 : decode prog_1_method_29_code 39 = .ok (.iload_n 2, 1) := by decide +kernel
theorem d_tl_sheet_40 : decode prog_1_method_29_code 40 = .ok (.iload_n 3, 1) := by decide +kernel
theorem d_tl_sheet_41 : decode prog_1_method_29_code 41 = .ok (.invokevirtual 258, 3) := by decide +kernel
theorem d_tl_sheet_44 : decode prog_1_method_29_code 44 = .ok (.iload_n 3, 1) := by decide +kernel
theorem d_tl_sheet_45 : decode prog_1_method_29_code 45 = .ok (.ireturn, 1) := by decide +kernel
theorem d_tl_lose_0 : decode prog_1_method_30_code 0 = .ok (.iload_n 1, 1) := by decide +kernel
theorem d_tl_lose_1 : decode prog_1_method_30_code 1 = .ok (.invokestatic 141, 3) := by decide +kernel
theorem d_tl_lose_4 : decode prog_1_method_30_code 4 = .ok (.ifCond .ne 6, 3) := by decide +kernel
theorem d_tl_lose_7 : decode prog_1_method_30_code 7 = .ok (.bipush (-2), 2) := by decide +kernel
theorem d_tl_lose_9 : decode prog_1_method_30_code 9 = .ok (.ireturn, 1) := by decide +kernel
theorem d_tl_lose_10 : decode prog_1_method_30_code 10 = .ok (.aload_n 0, 1) := by decide +kernel
theorem d_tl_lose_11 : decode prog_1_method_30_code 11 = .ok (.getfield 46, 3) := by decide +kernel
theorem d_tl_lose_14 : decode prog_1_method_30_code 14 = .ok (.iload_n 1, 1) := by decide +kernel
theorem d_tl_lose_15 : decode prog_1_method_30_code 15 = .ok (.aaload, 1) := by decide +kernel
theorem d_tl_lose_16 : decode prog_1_method_30_code 16 = .ok (.astore_n 2, 1) := by decide +kernel
theorem d_tl_lose_17 : decode prog_1_method_30_code 17 = .ok (.aload_n 2, 1) := by decide +kernel
theorem d_tl_lose_18 : decode prog_1_method_30_code 18 = .ok (.invokevirtual 144, 3) := by decide +kernel
theorem d_tl_lose_21 : decode prog_1_method_30_code 21 = .ok (.ifCond .eq 9, 3) := by decide +kernel
theorem d_tl_lose_24 : decode prog_1_method_30_code 24 = .ok (.aload_n 0, 1) := by decide +kernel
theorem d_tl_lose_25 : decode prog_1_method_30_code 25 = .ok (.iconst 1, 1) := by decide +kernel
theorem d_tl_lose_26 : decode prog_1_method_30_code 26 = .ok (.invokevirtual 148, 3) := by decide +kernel
theorem d_tl_lose_29 : decode prog_1_method_30_code 29 = .ok (.ireturn, 1) := by decide +kernel
theorem d_tl_lose_30 : decode prog_1_method_30_code 30 = .ok (.aload_n 2, 1) := by decide +kernel
theorem d_tl_lose_31 : decode prog_1_method_30_code 31 = .ok (.iconst (-1), 1) := by decide +kernel
theorem d_tl_lose_32 : decode prog_1_method_30_code 32 = .ok (.putfield 260, 3) := by decide +kernel
theorem d_tl_lose_35 : decode prog_1_method_30_code 35 = .ok (.aload_n 2, 1) := by decide +kernel
theorem d_tl_lose_36 : decode prog_1_method_30_code 36 = .ok (.getfield 151, 3) := by decide +kernel
theorem d_tl_lose_39 : decode prog_1_method_30_code 39 = .ok (.ireturn, 1) := by decide +kernel
theorem d_tl_lay_0 : decode prog_1_method_31_code 0 = .ok (.aload_n 0, 1) := by decide +kernel
theorem d_tl_lay_1 : decode prog_1_method_31_code 1 = .ok (.iload_n 1, 1) := by decide +kernel
theorem d_tl_lay_2 : decode prog_1_method_31_code 2 = .ok (.iload_n 2, 1) := by decide +kernel
theorem d_tl_lay_3 : decode prog_1_method_31_code 3 = .ok (.iload_n 3, 1) := by decide +kernel
theorem d_tl_lay_4 : decode prog_1_method_31_code 4 = .ok (.invokevirtual 263, 3) := by decide +kernel
theorem d_tl_lay_7 : decode prog_1_method_31_code 7 = .ok (.istore 5, 2) := by decide +kernel
theorem d_tl_lay_9 : decode prog_1_method_31_code 9 = .ok (.iload 5, 2) := by decide +kernel
theorem d_tl_lay_11 : decode prog_1_method_31_code 11 = .ok (.ifCond .eq 6, 3) := by decide +kernel
theorem d_tl_lay_14 : decode prog_1_method_31_code 14 = .ok (.iload 5, 2) := by decide +kernel
theorem d_tl_lay_16 : decode prog_1_method_31_code 16 = .ok (.ireturn, 1) := by decide +kernel
theorem d_tl_lay_17 : decode prog_1_method_31_code 17 = .ok (.aload_n 0, 1) := by decide +kernel
theorem d_tl_lay_18 : decode prog_1_method_31_code 18 = .ok (.getfield 46, 3) := by decide +kernel
theorem d_tl_lay_21 : decode prog_1_method_31_code 21 = .ok (.iload_n 1, 1) := by decide +kernel
theorem d_tl_lay_22 : decode prog_1_method_31_code 22 = .ok (.aaload, 1) := by decide +kernel
theorem d_tl_lay_23 : decode prog_1_method_31_code 23 = .ok (.iload_n 3, 1) := by decide +kernel
theorem d_tl_lay_24 : decode prog_1_method_31_code 24 = .ok (.iload 4, 2) := by decide +kernel
theorem d_tl_lay_26 : decode prog_1_method_31_code 26 = .ok (.invokevirtual 266, 3) := by decide +kernel
theorem d_tl_lay_29 : decode prog_1_method_31_code 29 = .ok (.iconst 1, 1) := by decide +kernel
theorem d_tl_lay_30 : decode prog_1_method_31_code 30 = .ok (.ireturn, 1) := by decide +kernel
theorem d_tl_get_0 : decode prog_1_method_32_code 0 = .ok (.aload_n 0, 1) := by decide +kernel
theorem d_tl_get_1 : decode prog_1_method_32_code 1 = .ok (.iload_n 1, 1) := by decide +kernel
theorem d_tl_get_2 : decode prog_1_method_32_code 2 = .ok (.iload_n 2, 1) := by decide +kernel
theorem d_tl_get_3 : decode prog_1_method_32_code 3 = .ok (.iload_n 3, 1) := by decide +kernel
theorem d_tl_get_4 : decode prog_1_method_32_code 4 = .ok (.invokevirtual 263, 3) := by decide +kernel
theorem d_tl_get_7 : decode prog_1_method_32_code 7 = .ok (.ifCond .eq 9, 3) := by decide +kernel
theorem d_tl_get_10 : decode prog_1_method_32_code 10 = .ok (.ldc_w 269, 3) := by decide +kernel
theorem d_tl_get_13 : decode prog_1_method_32_code 13 = .ok (.goto 14, 3) := by decide +kernel
theorem d_tl_get_16 : decode prog_1_method_32_code 16 = .ok (.aload_n 0, 1) := by decide +kernel
theorem d_tl_get_17 : decode prog_1_method_32_code 17 = .ok (.getfield 46, 3) := by decide +kernel
theorem d_tl_get_20 : decode prog_1_method_32_code 20 = .ok (.iload_n 1, 1) := by decide +kernel
theorem d_tl_get_21 : decode prog_1_method_32_code 21 = .ok (.aaload, 1) := by decide +kernel
theorem d_tl_get_22 : decode prog_1_method_32_code 22 = .ok (.getfield 152, 3) := by decide +kernel
theorem d_tl_get_25 : decode prog_1_method_32_code 25 = .ok (.iload_n 3, 1) := by decide +kernel
theorem d_tl_get_26 : decode prog_1_method_32_code 26 = .ok (.iaload, 1) := by decide +kernel
theorem d_tl_get_27 : decode prog_1_method_32_code 27 = .ok (.ireturn, 1) := by decide +kernel
theorem d_tl_copy_0 : decode prog_1_method_33_code 0 = .ok (.iload_n 1, 1) := by decide +kernel
theorem d_tl_copy_1 : decode prog_1_method_33_code 1 = .ok (.invokestatic 141, 3) := by decide +kernel
theorem d_tl_copy_4 : decode prog_1_method_33_code 4 = .ok (.ifCond .eq 10, 3) := by decide +kernel
theorem d_tl_copy_7 : decode prog_1_method_33_code 7 = .ok (.iload_n 3, 1) := by decide +kernel
theorem d_tl_copy_8 : decode prog_1_method_33_code 8 = .ok (.invokestatic 141, 3) := by decide +kernel
theorem d_tl_copy_11 : decode prog_1_method_33_code 11 = .ok (.ifCond .ne 6, 3) := by decide +kernel
theorem d_tl_copy_14 : decode prog_1_method_33_code 14 = .ok (.bipush (-2), 2) := by decide +kernel
theorem d_tl_copy_16 : decode prog_1_method_33_code 16 = .ok (.ireturn, 1) := by decide +kernel
theorem d_tl_copy_17 : decode prog_1_method_33_code 17 = .ok (.aload_n 0, 1) := by decide +kernel
theorem d_tl_copy_18 : decode prog_1_method_33_code 18 = .ok (.getfield 46, 3) := by decide +kernel
theorem d_tl_copy_21 : decode prog_1_method_33_code 21 = .ok (.iload_n 1, 1) := by decide +kernel
theorem d_tl_copy_22 : decode prog_1_method_33_code 22 = .ok (.aaload, 1) := by decide +kernel
theorem d_tl_copy_23 : decode prog_1_method_33_code 23 = .ok (.astore 6, 2) := by decide +kernel
theorem d_tl_copy_25 : decode prog_1_method_33_code 25 = .ok (.aload_n 0, 1) := by decide +kernel
theorem d_tl_copy_26 : decode prog_1_method_33_code 26 = .ok (.getfield 46, 3) := by decide +kernel
theorem d_tl_copy_29 : decode prog_1_method_33_code 29 = .ok (.iload_n 3, 1) := by decide +kernel
theorem d_tl_copy_30 : decode prog_1_method_33_code 30 = .ok (.aaload, 1) := by decide +kernel
theorem d_tl_copy_31 : decode prog_1_method_33_code 31 = .ok (.astore 7, 2) := by decide +kernel
theorem d_tl_copy_33 : decode prog_1_method_33_code 33 = .ok (.aload 6, 2) := by decide +kernel
theorem d_tl_copy_35 : decode prog_1_method_33_code 35 = .ok (.invokevirtual 144, 3) := by decide +kernel
theorem d_tl_copy_38 : decode prog_1_method_33_code 38 = .ok (.ifCond .ne 11, 3) := by decide +kernel
theorem d_tl_copy_41 : decode prog_1_method_33_code 41 = .ok (.aload 7, 2) := by decide +kernel
theorem d_tl_copy_43 : decode prog_1_method_33_code 43 = .ok (.invokevirtual 144, 3) := by decide +kernel
theorem d_tl_copy_46 : decode prog_1_method_33_code 46 = .ok (.ifCond .eq 9, 3) := by decide +kernel
theorem d_tl_copy_49 : decode prog_1_method_33_code 49 = .ok (.aload_n 0, 1) := by decide +kernel
theorem d_tl_copy_50 : decode prog_1_method_33_code 50 = .ok (.iconst 1, 1) := by decide +kernel
theorem d_tl_copy_51 : decode prog_1_method_33_code 51 = .ok (.invokevirtual 148, 3) := by decide +kernel
theorem d_tl_copy_54 : decode prog_1_method_33_code 54 = .ok (.ireturn, 1) := by decide +kernel
theorem d_tl_copy_55 : decode prog_1_method_33_code 55 = .ok (.aload 6, 2) := by decide +kernel
theorem d_tl_copy_57 : decode prog_1_method_33_code 57 = .ok (.getfield 260, 3) := by decide +kernel
theorem d_tl_copy_60 : decode prog_1_method_33_code 60 = .ok (.aload 7, 2) := by decide +kernel
theorem d_tl_copy_62 : decode prog_1_method_33_code 62 = .ok (.getfield 260, 3) := by decide +kernel
theorem d_tl_copy_65 : decode prog_1_method_33_code 65 = .ok (.if_icmp .eq 9, 3) := by decide +kernel
theorem d_tl_copy_68 : decode prog_1_method_33_code 68 = .ok (.aload_n 0, 1) := by decide +kernel
theorem d_tl_copy_69 : decode prog_1_method_33_code 69 = .ok (.iconst 4, 1) := by decide +kernel
theorem d_tl_copy_70 : decode prog_1_method_33_code 70 = .ok (.invokevirtual 148, 3) := by decide +kernel
theorem d_tl_copy_73 : decode prog_1_method_33_code 73 = .ok (.ireturn, 1) := by decide +kernel
theorem d_tl_copy_74 : decode prog_1_method_33_code 74 = .ok (.aload 6, 2) := by decide +kernel
theorem d_tl_copy_76 : decode prog_1_method_33_code 76 = .ok (.iload_n 2, 1) := by decide +kernel
theorem d_tl_copy_77 : decode prog_1_method_33_code 77 = .ok (.iload 5, 2) := by decide +kernel
theorem d_tl_copy_79 : decode prog_1_method_33_code 79 = .ok (.invokevirtual 270, 3) := by decide +kernel
theorem d_tl_copy_82 : decode prog_1_method_33_code 82 = .ok (.ifCond .eq 15, 3) := by decide +kernel
theorem d_tl_copy_85 : decode prog_1_method_33_code 85 = .ok (.aload 7, 2) := by decide +kernel
theorem d_tl_copy_87 : decode prog_1_method_33_code 87 = .ok (.iload 4, 2) := by decide +kernel
theorem d_tl_copy_89 : decode prog_1_method_33_code 89 = .ok (.iload 5, 2) := by decide +kernel
theorem d_tl_copy_91 : decode prog_1_method_33_code 91 = .ok (.invokevirtual 270, 3) := by decide +kernel
theorem d_tl_copy_94 : decode prog_1_method_33_code 94 = .ok (.ifCond .ne 9, 3) := by decide +kernel
theorem d_tl_copy_97 : decode prog_1_method_33_code 97 = .ok (.aload_n 0, 1) := by decide +kernel
theorem d_tl_copy_98 : decode prog_1_method_33_code 98 = .ok (.iconst 2, 1) := by decide +kernel
theorem d_tl_copy_99 : decode prog_1_method_33_code 99 = .ok (.invokevirtual 148, 3) := by decide +kernel
theorem d_tl_copy_102 : decode prog_1_method_33_code 102 = .ok (.ireturn, 1) := by decide +kernel
theorem d_tl_copy_103 : decode prog_1_method_33_code 103 = .ok (.aload 6, 2) := by decide +kernel
theorem d_tl_copy_105 : decode prog_1_method_33_code 105 = .ok (.getfield 152, 3) := by decide +kernel
theorem d_tl_copy_108 : decode prog_1_method_33_code 108 = .ok (.iload_n 2, 1) := by decide +kernel
theorem d_tl_copy_109 : decode prog_1_method_33_code 109 = .ok (.aload 7, 2) := by decide +kernel
theorem d_tl_copy_111 : decode prog_1_method_33_code 111 = .ok (.getfield 152, 3) := by decide +kernel
theorem d_tl_copy_114 : decode prog_1_method_33_code 114 = .ok (.iload 4, 2) := by decide +kernel
theorem d_tl_copy_116 : decode prog_1_method_33_code 116 = .ok (.iload 5, 2) := by decide +kernel
theorem d_tl_copy_118 : decode prog_1_method_33_code 118 = .ok (.invokestatic 273, 3) := by decide +kernel
theorem d_tl_copy_121 : decode prog_1_method_33_code 121 = .ok (.iconst 1, 1) := by decide +kernel
theorem d_tl_copy_122 : decode prog_1_method_33_code 122 = .ok (.ireturn, 1) := by decide +kernel
theorem d_tl_write_0 : decode prog_1_method_34_code 0 = .ok (.iload_n 1, 1) := by decide +kernel
theorem d_tl_write_1 : decode prog_1_method_34_code 1 = .ok (.invokestatic 115, 3) := by decide +kernel
theorem d_tl_write_4 : decode prog_1_method_34_code 4 = .ok (.ifCond .eq 18, 3) := by decide +kernel
theorem d_tl_write_7 : decode prog_1_method_34_code 7 = .ok (.aload_n 0, 1) := by decide +kernel
theorem d_tl_write_8 : decode prog_1_method_34_code 8 = .ok (.iload_n 2, 1) := by decide +kernel
theorem d_tl_write_9 : decode prog_1_method_34_code 9 = .ok (.invokevirtual 83, 3) := by decide +kernel
theorem d_tl_write_12 : decode prog_1_method_34_code 12 = .ok (.ifCond .eq 10, 3) := by decide +kernel
theorem d_tl_write_15 : decode prog_1_method_34_code 15 = .ok (.iload_n 3, 1) := by decide +kernel
theorem d_tl_write_16 : decode prog_1_method_34_code 16 = .ok (.invokestatic 141, 3) := by decide +kernel
theorem d_tl_write_19 : decode prog_1_method_34_code 19 = .ok (.ifCond .ne 6, 3) := by decide +kernel
theorem d_tl_write_22 : decode prog_1_method_34_code 22 = .ok (.bipush (-2), 2) := by decide +kernel
theorem d_tl_write_24 : decode prog_1_method_34_code 24 = .ok (.ireturn, 1) := by decide +kernel
theorem d_tl_write_25 : decode prog_1_method_34_code 25 = .ok (.aload_n 0, 1) := by decide +kernel
theorem d_tl_write_26 : decode prog_1_method_34_code 26 = .ok (.getfield 46, 3) := by decide +kernel
theorem d_tl_write_29 : decode prog_1_method_34_code 29 = .ok (.iload_n 3, 1) := by decide +kernel
theorem d_tl_write_30 : decode prog_1_method_34_code 30 = .ok (.aaload, 1) := by decide +kernel
theorem d_tl_write_31 : decode prog_1_method_34_code 31 = .ok (.astore 4, 2) := by decide +kernel
theorem d_tl_write_33 : decode prog_1_method_34_code 33 = .ok (.aload 4, 2) := by decide +kernel
theorem d_tl_write_35 : decode prog_1_method_34_code 35 = .ok (.invokevirtual 144, 3) := by decide +kernel
theorem d_tl_write_38 : decode prog_1_method_34_code 38 = .ok (.ifCond .eq 9, 3) := by decide +kernel
theorem d_tl_write_41 : decode prog_1_method_34_code 41 = .ok (.aload_n 0, 1) := by decide +kernel
theorem d_tl_write_42 : decode prog_1_method_34_code 42 = .ok (.iconst 1, 1) := by decide +kernel
theorem d_tl_write_43 : decode prog_1_method_34_code 43 = .ok (.invokevirtual 148, 3) := by decide +kernel
theorem d_tl_write_46 : decode prog_1_method_34_code 46 = .ok (.ireturn, 1) := by decide +kernel
theorem d_tl_write_47 : decode prog_1_method_34_code 47 = .ok (.aload_n 0, 1) := by decide +kernel
theorem d_tl_write_48 : decode prog_1_method_34_code 48 = .ok (.getfield 19, 3) := by decide +kernel
theorem d_tl_write_51 : decode prog_1_method_34_code 51 = .ok (.aload_n 0, 1) := by decide +kernel
theorem d_tl_write_52 : decode prog_1_method_34_code 52 = .ok (.getfield 10, 3) := by decide +kernel
theorem d_tl_write_55 : decode prog_1_method_34_code 55 = .ok (.aload_n 0, 1) := by decide +kernel
theorem d_tl_write_56 : decode prog_1_method_34_code 56 = .ok (.getfield 51, 3) := by decide +kernel
theorem d_tl_write_59 : decode prog_1_method_34_code 59 = .ok (.aload_n 0, 1) := by decide +kernel
theorem d_tl_write_60 : decode prog_1_method_34_code 60 = .ok (.getfield 33, 3) := by decide +kernel
theorem d_tl_write_63 : decode prog_1_method_34_code 63 = .ok (.invokevirtual 162, 3) := by decide +kernel
theorem d_tl_write_66 : decode prog_1_method_34_code 66 = .ok (.aload 4, 2) := by decide +kernel
theorem d_tl_write_68 : decode prog_1_method_34_code 68 = .ok (.getfield 151, 3) := by decide +kernel
theorem d_tl_write_71 : decode prog_1_method_34_code 71 = .ok (.aload_n 0, 1) := by decide +kernel
theorem d_tl_write_72 : decode prog_1_method_34_code 72 = .ok (.getfield 19, 3) := by decide +kernel
theorem d_tl_write_75 : decode prog_1_method_34_code 75 = .ok (.iload_n 1, 1) := by decide +kernel
theorem d_tl_write_76 : decode prog_1_method_34_code 76 = .ok (.iload_n 2, 1) := by decide +kernel
theorem d_tl_write_77 : decode prog_1_method_34_code 77 = .ok (.invokevirtual 166, 3) := by decide +kernel
theorem d_tl_write_80 : decode prog_1_method_34_code 80 = .ok (.invokestatic 279, 3) := by decide +kernel
theorem d_tl_write_83 : decode prog_1_method_34_code 83 = .ok (.istore 5, 2) := by decide +kernel
theorem d_tl_write_85 : decode prog_1_method_34_code 85 = .ok (.iconst 0, 1) := by decide +kernel
theorem d_tl_write_86 : decode prog_1_method_34_code 86 = .ok (.istore 6, 2) := by decide +kernel
theorem d_tl_write_88 : decode prog_1_method_34_code 88 = .ok (.iload 6, 2) := by decide +kernel
theorem d_tl_write_90 : decode prog_1_method_34_code 90 = .ok (.iload 5, 2) := by decide +kernel
theorem d_tl_write_92 : decode prog_1_method_34_code 92 = .ok (.if_icmp .ge 27, 3) := by decide +kernel
theorem d_tl_write_95 : decode prog_1_method_34_code 95 = .ok (.aload 4, 2) := by decide +kernel
theorem d_tl_write_97 : decode prog_1_method_34_code 97 = .ok (.iload 6, 2) := by decide +kernel
theorem d_tl_write_99 : decode prog_1_method_34_code 99 = .ok (.aload_n 0, 1) := by decide +kernel
theorem d_tl_write_100 : decode prog_1_method_34_code 100 = .ok (.getfield 19, 3) := by decide +kernel
theorem d_tl_write_103 : decode prog_1_method_34_code 103 = .ok (.iload_n 1, 1) := by decide +kernel
theorem d_tl_write_104 : decode prog_1_method_34_code 104 = .ok (.iload_n 2, 1) := by decide +kernel
theorem d_tl_write_105 : decode prog_1_method_34_code 105 = .ok (.iload 6, 2) := by decide +kernel
theorem d_tl_write_107 : decode prog_1_method_34_code 107 = .ok (.invokevirtual 169, 3) := by decide +kernel
theorem d_tl_write_110 : decode prog_1_method_34_code 110 = .ok (.invokevirtual 266, 3) := by decide +kernel
theorem d_tl_write_113 : decode prog_1_method_34_code 113 = .ok (.iinc 6 1, 3) := by decide +kernel
theorem d_tl_write_116 : decode prog_1_method_34_code 116 = .ok (.goto (-28), 3) := by decide +kernel
theorem d_tl_write_119 : decode prog_1_method_34_code 119 = .ok (.iload 5, 2) := by decide +kernel
theorem d_tl_write_121 : decode prog_1_method_34_code 121 = .ok (.ireturn, 1) := by decide +kernel
theorem d_tl_count_0 : decode prog_1_method_35_code 0 = .ok (.iload_n 1, 1) := by decide +kernel
theorem d_tl_count_1 : decode prog_1_method_35_code 1 = .ok (.tableswitch 146 0 8 #[51, 59, 67, 80, 93, 101, 128, 133, 141], 51) := by decide +kernel
theorem d_tl_count_52 : decode prog_1_method_35_code 52 = .ok (.aload_n 0, 1) := by decide +kernel
theorem d_tl_count_53 : decode prog_1_method_35_code 53 = .ok (.getfield 10, 3) := by decide +kernel
theorem d_tl_count_56 : decode prog_1_method_35_code 56 = .ok (.getfield 225, 3) := by decide +kernel
theorem d_tl_count_59 : decode prog_1_method_35_code 59 = .ok (.ireturn, 1) := by decide +kernel
theorem d_tl_count_60 : decode prog_1_method_35_code 60 = .ok (.aload_n 0, 1) := by decide +kernel
theorem d_tl_count_61 : decode prog_1_method_35_code 61 = .ok (.getfield 10, 3) := by decide +kernel
theorem d_tl_count_64 : decode prog_1_method_35_code 64 = .ok (.getfield 284, 3) := by decide +kernel
theorem d_tl_count_67 : decode prog_1_method_35_code 67 = .ok (.ireturn, 1) := by decide +kernel
theorem d_tl_count_68 : decode prog_1_method_35_code 68 = .ok (.aload_n 0, 1) := by decide +kernel
theorem d_tl_count_69 : decode prog_1_method_35_code 69 = .ok (.getfield 10, 3) := by decide +kernel
theorem d_tl_count_72 : decode prog_1_method_35_code 72 = .ok (.getfield 63, 3) := by decide +kernel
theorem d_tl_count_75 : decode prog_1_method_35_code 75 = .ok (.iconst 0, 1) := by decide +kernel
theorem d_tl_count_76 : decode prog_1_method_35_code 76 = .ok (.aaload, 1) := by decide +kernel
theorem d_tl_count_77 : decode prog_1_method_35_code 77 = .ok (.getfield 67, 3) := by decide +kernel
theorem d_tl_count_80 : decode prog_1_method_35_code 80 = .ok (.ireturn, 1) := by decide +kernel
theorem d_tl_count_81 : decode prog_1_method_35_code 81 = .ok (.aload_n 0, 1) := by decide +kernel
theorem d_tl_count_82 : decode prog_1_method_35_code 82 = .ok (.getfield 10, 3) := by decide +kernel
theorem d_tl_count_85 : decode prog_1_method_35_code 85 = .ok (.getfield 63, 3) := by decide +kernel
theorem d_tl_count_88 : decode prog_1_method_35_code 88 = .ok (.iconst 1, 1) := by decide +kernel
theorem d_tl_count_89 : decode prog_1_method_35_code 89 = .ok (.aaload, 1) := by decide +kernel
theorem d_tl_count_90 : decode prog_1_method_35_code 90 = .ok (.getfield 67, 3) := by decide +kernel
theorem d_tl_count_93 : decode prog_1_method_35_code 93 = .ok (.ireturn, 1) := by decide +kernel
theorem d_tl_count_94 : decode prog_1_method_35_code 94 = .ok (.aload_n 0, 1) := by decide +kernel
theorem d_tl_count_95 : decode prog_1_method_35_code 95 = .ok (.getfield 10, 3) := by decide +kernel
theorem d_tl_count_98 : decode prog_1_method_35_code 98 = .ok (.getfield 118, 3) := by decide +kernel
theorem d_tl_count_101 : decode prog_1_method_35_code 101 = .ok (.ireturn, 1) := by decide +kernel
theorem d_tl_count_102 : decode prog_1_method_35_code 102 = .ok (.aload_n 0, 1) := by decide +kernel
theorem d_tl_count_103 : decode prog_1_method_35_code 103 = .ok (.getfield 19, 3) := by decide +kernel
theorem d_tl_count_106 : decode prog_1_method_35_code 106 = .ok (.aload_n 0, 1) := by decide +kernel
theorem d_tl_count_107 : decode prog_1_method_35_code 107 = .ok (.getfield 10, 3) := by decide +kernel
theorem d_tl_count_110 : decode prog_1_method_35_code 110 = .ok (.aload_n 0, 1) := by decide +kernel
theorem d_tl_count_111 : decode prog_1_method_35_code 111 = .ok (.getfield 51, 3) := by decide +kernel
theorem d_tl_count_114 : decode prog_1_method_35_code 114 = .ok (.aload_n 0, 1) := by decide +kernel
theorem d_tl_count_115 : decode prog_1_method_35_code 115 = .ok (.getfield 33, 3) := by decide +kernel
theorem d_tl_count_118 : decode prog_1_method_35_code 118 = .ok (.invokevirtual 162, 3) := by decide +kernel
theorem d_tl_count_121 : decode prog_1_method_35_code 121 = .ok (.aload_n 0, 1) := by decide +kernel
theorem d_tl_count_122 : decode prog_1_method_35_code 122 = .ok (.getfield 10, 3) := by decide +kernel
theorem d_tl_count_125 : decode prog_1_method_35_code 125 = .ok (.invokevirtual 287, 3) := by decide +kernel
theorem d_tl_count_128 : decode prog_1_method_35_code 128 = .ok (.ireturn, 1) := by decide +kernel
theorem d_tl_count_129 : decode prog_1_method_35_code 129 = .ok (.aload_n 0, 1) := by decide +kernel
theorem d_tl_count_130 : decode prog_1_method_35_code 130 = .ok (.getfield 51, 3) := by decide +kernel
theorem d_tl_count_133 : decode prog_1_method_35_code 133 = .ok (.ireturn, 1) := by decide +kernel
theorem d_tl_count_134 : decode prog_1_method_35_code 134 = .ok (.aload_n 0, 1) := by decide +kernel
theorem d_tl_count_135 : decode prog_1_method_35_code 135 = .ok (.getfield 10, 3) := by decide +kernel
theorem d_tl_count_138 : decode prog_1_method_35_code 138 = .ok (.invokevirtual 290, 3) := by decide +kernel
theorem d_tl_count_141 : decode prog_1_method_35_code 141 = .ok (.ireturn, 1) := by decide +kernel
theorem d_tl_count_142 : decode prog_1_method_35_code 142 = .ok (.aload_n 0, 1) := by decide +kernel
theorem d_tl_count_143 : decode prog_1_method_35_code 143 = .ok (.getfield 293, 3) := by decide +kernel
theorem d_tl_count_146 : decode prog_1_method_35_code 146 = .ok (.ireturn, 1) := by decide +kernel
theorem d_tl_count_147 : decode prog_1_method_35_code 147 = .ok (.bipush (-2), 2) := by decide +kernel
theorem d_tl_count_149 : decode prog_1_method_35_code 149 = .ok (.ireturn, 1) := by decide +kernel
theorem d_tl_digest_0 : decode prog_1_method_36_code 0 = .ok (.ldc2_w 296, 3) := by decide +kernel
theorem d_tl_digest_3 : decode prog_1_method_36_code 3 = .ok (.lstore_n 1, 1) := by decide +kernel
theorem d_tl_digest_4 : decode prog_1_method_36_code 4 = .ok (.iconst 0, 1) := by decide +kernel
theorem d_tl_digest_5 : decode prog_1_method_36_code 5 = .ok (.istore_n 3, 1) := by decide +kernel
theorem d_tl_digest_6 : decode prog_1_method_36_code 6 = .ok (.iload_n 3, 1) := by decide +kernel
theorem d_tl_digest_7 : decode prog_1_method_36_code 7 = .ok (.bipush 8, 2) := by decide +kernel
theorem d_tl_digest_9 : decode prog_1_method_36_code 9 = .ok (.if_icmp .ge 22, 3) := by decide +kernel
theorem d_tl_digest_12 : decode prog_1_method_36_code 12 = .ok (.ldc2_w 298, 3) := by decide +kernel
theorem d_tl_digest_15 : decode prog_1_method_36_code 15 = .ok (.lload_n 1, 1) := by decide +kernel
theorem d_tl_digest_16 : decode prog_1_method_36_code 16 = .ok (.lmul, 1) := by decide +kernel
theorem d_tl_digest_17 : decode prog_1_method_36_code 17 = .ok (.aload_n 0, 1) := by decide +kernel
theorem d_tl_digest_18 : decode prog_1_method_36_code 18 = .ok (.iload_n 3, 1) := by decide +kernel
theorem d_tl_digest_19 : decode prog_1_method_36_code 19 = .ok (.invokevirtual 300, 3) := by decide +kernel
theorem d_tl_digest_22 : decode prog_1_method_36_code 22 = .ok (.i2l, 1) := by decide +kernel
theorem d_tl_digest_23 : decode prog_1_method_36_code 23 = .ok (.ladd, 1) := by decide +kernel
theorem d_tl_digest_24 : decode prog_1_method_36_code 24 = .ok (.lstore_n 1, 1) := by decide +kernel
theorem d_tl_digest_25 : decode prog_1_method_36_code 25 = .ok (.iinc 3 1, 3) := by decide +kernel
theorem d_tl_digest_28 : decode prog_1_method_36_code 28 = .ok (.goto (-22), 3) := by decide +kernel
theorem d_tl_digest_31 : decode prog_1_method_36_code 31 = .ok (.iconst 0, 1) := by decide +kernel
theorem d_tl_digest_32 : decode prog_1_method_36_code 32 = .ok (.istore_n 3, 1) := by decide +kernel
theorem d_tl_digest_33 : decode prog_1_method_36_code 33 = .ok (.iload_n 3, 1) := by decide +kernel
theorem d_tl_digest_34 : decode prog_1_method_36_code 34 = .ok (.iconst 2, 1) := by decide +kernel
theorem d_tl_digest_35 : decode prog_1_method_36_code 35 = .ok (.if_icmp .ge 22, 3) := by decide +kernel
theorem d_tl_digest_38 : decode prog_1_method_36_code 38 = .ok (.ldc2_w 298, 3) := by decide +kernel
theorem d_tl_digest_41 : decode prog_1_method_36_code 41 = .ok (.lload_n 1, 1) := by decide +kernel
theorem d_tl_digest_42 : decode prog_1_method_36_code 42 = .ok (.lmul, 1) := by decide +kernel
theorem d_tl_digest_43 : decode prog_1_method_36_code 43 = .ok (.aload_n 0, 1) := by decide +kernel
theorem d_tl_digest_44 : decode prog_1_method_36_code 44 = .ok (.iload_n 3, 1) := by decide +kernel
theorem d_tl_digest_45 : decode prog_1_method_36_code 45 = .ok (.invokevirtual 303, 3) := by decide +kernel
theorem d_tl_digest_48 : decode prog_1_method_36_code 48 = .ok (.i2l, 1) := by decide +kernel
theorem d_tl_digest_49 : decode prog_1_method_36_code 49 = .ok (.ladd, 1) := by decide +kernel
theorem d_tl_digest_50 : decode prog_1_method_36_code 50 = .ok (.lstore_n 1, 1) := by decide +kernel
theorem d_tl_digest_51 : decode prog_1_method_36_code 51 = .ok (.iinc 3 1, 3) := by decide +kernel
theorem d_tl_digest_54 : decode prog_1_method_36_code 54 = .ok (.goto (-21), 3) := by decide +kernel
theorem d_tl_digest_57 : decode prog_1_method_36_code 57 = .ok (.iconst 0, 1) := by decide +kernel
theorem d_tl_digest_58 : decode prog_1_method_36_code 58 = .ok (.istore_n 3, 1) := by decide +kernel
theorem d_tl_digest_59 : decode prog_1_method_36_code 59 = .ok (.iload_n 3, 1) := by decide +kernel
theorem d_tl_digest_60 : decode prog_1_method_36_code 60 = .ok (.aload_n 0, 1) := by decide +kernel
theorem d_tl_digest_61 : decode prog_1_method_36_code 61 = .ok (.getfield 10, 3) := by decide +kernel
theorem d_tl_digest_64 : decode prog_1_method_36_code 64 = .ok (.getfield 225, 3) := by decide +kernel
theorem d_tl_digest_67 : decode prog_1_method_36_code 67 = .ok (.if_icmp .ge 21, 3) := by decide +kernel
theorem d_tl_digest_70 : decode prog_1_method_36_code 70 = .ok (.aload_n 0, 1) := by decide +kernel
theorem d_tl_digest_71 : decode prog_1_method_36_code 71 = .ok (.aload_n 0, 1) := by decide +kernel
theorem d_tl_digest_72 : decode prog_1_method_36_code 72 = .ok (.lload_n 1, 1) := by decide +kernel
theorem d_tl_digest_73 : decode prog_1_method_36_code 73 = .ok (.iload_n 3, 1) := by decide +kernel
theorem d_tl_digest_74 : decode prog_1_method_36_code 74 = .ok (.invokevirtual 306, 3) := by decide +kernel
theorem d_tl_digest_77 : decode prog_1_method_36_code 77 = .ok (.iload_n 3, 1) := by decide +kernel
theorem d_tl_digest_78 : decode prog_1_method_36_code 78 = .ok (.invokevirtual 310, 3) := by decide +kernel
theorem d_tl_digest_81 : decode prog_1_method_36_code 81 = .ok (.lstore_n 1, 1) := by decide +kernel
theorem d_tl_digest_82 : decode prog_1_method_36_code 82 = .ok (.iinc 3 1, 3) := by decide +kernel
theorem d_tl_digest_85 : decode prog_1_method_36_code 85 = .ok (.goto (-26), 3) := by decide +kernel
theorem d_tl_digest_88 : decode prog_1_method_36_code 88 = .ok (.iconst 0, 1) := by decide +kernel
theorem d_tl_digest_89 : decode prog_1_method_36_code 89 = .ok (.istore_n 3, 1) := by decide +kernel
theorem d_tl_digest_90 : decode prog_1_method_36_code 90 = .ok (.iload_n 3, 1) := by decide +kernel
theorem d_tl_digest_91 : decode prog_1_method_36_code 91 = .ok (.aload_n 0, 1) := by decide +kernel
theorem d_tl_digest_92 : decode prog_1_method_36_code 92 = .ok (.getfield 10, 3) := by decide +kernel
theorem d_tl_digest_95 : decode prog_1_method_36_code 95 = .ok (.getfield 284, 3) := by decide +kernel
theorem d_tl_digest_98 : decode prog_1_method_36_code 98 = .ok (.if_icmp .ge 39, 3) := by decide +kernel
theorem d_tl_digest_101 : decode prog_1_method_36_code 101 = .ok (.iconst 0, 1) := by decide +kernel
theorem d_tl_digest_102 : decode prog_1_method_36_code 102 = .ok (.istore 4, 2) := by decide +kernel
theorem d_tl_digest_104 : decode prog_1_method_36_code 104 = .ok (.iload 4, 2) := by decide +kernel
theorem d_tl_digest_106 : decode prog_1_method_36_code 106 = .ok (.iconst 3, 1) := by decide +kernel
theorem d_tl_digest_107 : decode prog_1_method_36_code 107 = .ok (.if_icmp .ge 24, 3) := by decide +kernel
theorem d_tl_digest_110 : decode prog_1_method_36_code 110 = .ok (.ldc2_w 298, 3) := by decide +kernel
theorem d_tl_digest_113 : decode prog_1_method_36_code 113 = .ok (.lload_n 1, 1) := by decide +kernel
theorem d_tl_digest_114 : decode prog_1_method_36_code 114 = .ok (.lmul, 1) := by decide +kernel
theorem d_tl_digest_115 : decode prog_1_method_36_code 115 = .ok (.aload_n 0, 1) := by decide +kernel
theorem d_tl_digest_116 : decode prog_1_method_36_code 116 = .ok (.iload_n 3, 1) := by decide +kernel
theorem d_tl_digest_117 : decode prog_1_method_36_code 117 = .ok (.iload 4, 2) := by decide +kernel
theorem d_tl_digest_119 : decode prog_1_method_36_code 119 = .ok (.invokevirtual 313, 3) := by decide +kernel
theorem d_tl_digest_122 : decode prog_1_method_36_code 122 = .ok (.i2l, 1) := by decide +kernel
theorem d_tl_digest_123 : decode prog_1_method_36_code 123 = .ok (.ladd, 1) := by decide +kernel
theorem d_tl_digest_124 : decode prog_1_method_36_code 124 = .ok (.lstore_n 1, 1) := by decide +kernel
theorem d_tl_digest_125 : decode prog_1_method_36_code 125 = .ok (.iinc 4 1, 3) := by decide +kernel
theorem d_tl_digest_128 : decode prog_1_method_36_code 128 = .ok (.goto (-24), 3) := by decide +kernel
theorem d_tl_digest_131 : decode prog_1_method_36_code 131 = .ok (.iinc 3 1, 3) := by decide +kernel
theorem d_tl_digest_134 : decode prog_1_method_36_code 134 = .ok (.goto (-44), 3) := by decide +kernel
theorem d_tl_digest_137 : decode prog_1_method_36_code 137 = .ok (.iconst 0, 1) := by decide +kernel
theorem d_tl_digest_138 : decode prog_1_method_36_code 138 = .ok (.istore_n 3, 1) := by decide +kernel
theorem d_tl_digest_139 : decode prog_1_method_36_code 139 = .ok (.iload_n 3, 1) := by decide +kernel
theorem d_tl_digest_140 : decode prog_1_method_36_code 140 = .ok (.aload_n 0, 1) := by decide +kernel
theorem d_tl_digest_141 : decode prog_1_method_36_code 141 = .ok (.getfield 10, 3) := by decide +kernel
theorem d_tl_digest_144 : decode prog_1_method_36_code 144 = .ok (.getfield 118, 3) := by decide +kernel
theorem d_tl_digest_147 : decode prog_1_method_36_code 147 = .ok (.if_icmp .ge 39, 3) := by decide +kernel
theorem d_tl_digest_150 : decode prog_1_method_36_code 150 = .ok (.iconst 0, 1) := by decide +kernel
theorem d_tl_digest_151 : decode prog_1_method_36_code 151 = .ok (.istore 4, 2) := by decide +kernel
theorem d_tl_digest_153 : decode prog_1_method_36_code 153 = .ok (.iload 4, 2) := by decide +kernel
theorem d_tl_digest_155 : decode prog_1_method_36_code 155 = .ok (.iconst 3, 1) := by decide +kernel
theorem d_tl_digest_156 : decode prog_1_method_36_code 156 = .ok (.if_icmp .ge 24, 3) := by decide +kernel
theorem d_tl_digest_159 : decode prog_1_method_36_code 159 = .ok (.ldc2_w 298, 3) := by decide +kernel
theorem d_tl_digest_162 : decode prog_1_method_36_code 162 = .ok (.lload_n 1, 1) := by decide +kernel
theorem d_tl_digest_163 : decode prog_1_method_36_code 163 = .ok (.lmul, 1) := by decide +kernel
theorem d_tl_digest_164 : decode prog_1_method_36_code 164 = .ok (.aload_n 0, 1) := by decide +kernel
theorem d_tl_digest_165 : decode prog_1_method_36_code 165 = .ok (.iload_n 3, 1) := by decide +kernel
theorem d_tl_digest_166 : decode prog_1_method_36_code 166 = .ok (.iload 4, 2) := by decide +kernel
theorem d_tl_digest_168 : decode prog_1_method_36_code 168 = .ok (.invokevirtual 315, 3) := by decide +kernel
theorem d_tl_digest_171 : decode prog_1_method_36_code 171 = .ok (.i2l, 1) := by decide +kernel
theorem d_tl_digest_172 : decode prog_1_method_36_code 172 = .ok (.ladd, 1) := by decide +kernel
theorem d_tl_digest_173 : decode prog_1_method_36_code 173 = .ok (.lstore_n 1, 1) := by decide +kernel
theorem d_tl_digest_174 : decode prog_1_method_36_code 174 = .ok (.iinc 4 1, 3) := by decide +kernel
theorem d_tl_digest_177 : decode prog_1_method_36_code 177 = .ok (.goto (-24), 3) := by decide +kernel
theorem d_tl_digest_180 : decode prog_1_method_36_code 180 = .ok (.iinc 3 1, 3) := by decide +kernel
theorem d_tl_digest_183 : decode prog_1_method_36_code 183 = .ok (.goto (-44), 3) := by decide +kernel
theorem d_tl_digest_186 : decode prog_1_method_36_code 186 = .ok (.ldc2_w 298, 3) := by decide +kernel
theorem d_tl_digest_189 : decode prog_1_method_36_code 189 = .ok (.lload_n 1, 1) := by decide +kernel
theorem d_tl_digest_190 : decode prog_1_method_36_code 190 = .ok (.lmul, 1) := by decide +kernel
theorem d_tl_digest_191 : decode prog_1_method_36_code 191 = .ok (.aload_n 0, 1) := by decide +kernel
theorem d_tl_digest_192 : decode prog_1_method_36_code 192 = .ok (.iconst 0, 1) := by decide +kernel
theorem d_tl_digest_193 : decode prog_1_method_36_code 193 = .ok (.invokevirtual 318, 3) := by decide +kernel
theorem d_tl_digest_196 : decode prog_1_method_36_code 196 = .ok (.i2l, 1) := by decide +kernel
theorem d_tl_digest_197 : decode prog_1_method_36_code 197 = .ok (.ladd, 1) := by decide +kernel
theorem d_tl_digest_198 : decode prog_1_method_36_code 198 = .ok (.lstore_n 1, 1) := by decide +kernel
theorem d_tl_digest_199 : decode prog_1_method_36_code 199 = .ok (.ldc2_w 298, 3) := by decide +kernel
theorem d_tl_digest_202 : decode prog_1_method_36_code 202 = .ok (.lload_n 1, 1) := by decide +kernel
theorem d_tl_digest_203 : decode prog_1_method_36_code 203 = .ok (.lmul, 1) := by decide +kernel
theorem d_tl_digest_204 : decode prog_1_method_36_code 204 = .ok (.aload_n 0, 1) := by decide +kernel
theorem d_tl_digest_205 : decode prog_1_method_36_code 205 = .ok (.bipush 9, 2) := by decide +kernel
theorem d_tl_digest_207 : decode prog_1_method_36_code 207 = .ok (.invokevirtual 318, 3) := by decide +kernel
theorem d_tl_digest_210 : decode prog_1_method_36_code 210 = .ok (.i2l, 1) := by decide +kernel
theorem d_tl_digest_211 : decode prog_1_method_36_code 211 = .ok (.ladd, 1) := by decide +kernel
theorem d_tl_digest_212 : decode prog_1_method_36_code 212 = .ok (.lstore_n 1, 1) := by decide +kernel
theorem d_tl_digest_213 : decode prog_1_method_36_code 213 = .ok (.ldc2_w 298, 3) := by decide +kernel
theorem d_tl_digest_216 : decode prog_1_method_36_code 216 = .ok (.lload_n 1, 1) := by decide +kernel
theorem d_tl_digest_217 : decode prog_1_method_36_code 217 = .ok (.lmul, 1) := by decide +kernel
theorem d_tl_digest_218 : decode prog_1_method_36_code 218 = .ok (.aload_n 0, 1) := by decide +kernel
theorem d_tl_digest_219 : decode prog_1_method_36_code 219 = .ok (.bipush 39, 2) := by decide +kernel
theorem d_tl_digest_221 : decode prog_1_method_36_code 221 = .ok (.invokevirtual 318, 3) := by decide +kernel
theorem d_tl_digest_224 : decode prog_1_method_36_code 224 = .ok (.i2l, 1) := by decide +kernel
theorem d_tl_digest_225 : decode prog_1_method_36_code 225 = .ok (.ladd, 1) := by decide +kernel
theorem d_tl_digest_226 : decode prog_1_method_36_code 226 = .ok (.lstore_n 1, 1) := by decide +kernel
theorem d_tl_digest_227 : decode prog_1_method_36_code 227 = .ok (.ldc2_w 298, 3) := by decide +kernel
theorem d_tl_digest_230 : decode prog_1_method_36_code 230 = .ok (.lload_n 1, 1) := by decide +kernel
theorem d_tl_digest_231 : decode prog_1_method_36_code 231 = .ok (.lmul, 1) := by decide +kernel
theorem d_tl_digest_232 : decode prog_1_method_36_code 232 = .ok (.aload_n 0, 1) := by decide +kernel
theorem d_tl_digest_233 : decode prog_1_method_36_code 233 = .ok (.iconst 3, 1) := by decide +kernel
theorem d_tl_digest_234 : decode prog_1_method_36_code 234 = .ok (.invokevirtual 321, 3) := by decide +kernel
theorem d_tl_digest_237 : decode prog_1_method_36_code 237 = .ok (.i2l, 1) := by decide +kernel
theorem d_tl_digest_238 : decode prog_1_method_36_code 238 = .ok (.ladd, 1) := by decide +kernel
theorem d_tl_digest_239 : decode prog_1_method_36_code 239 = .ok (.lstore_n 1, 1) := by decide +kernel
theorem d_tl_digest_240 : decode prog_1_method_36_code 240 = .ok (.ldc2_w 298, 3) := by decide +kernel
theorem d_tl_digest_243 : decode prog_1_method_36_code 243 = .ok (.lload_n 1, 1) := by decide +kernel
theorem d_tl_digest_244 : decode prog_1_method_36_code 244 = .ok (.lmul, 1) := by decide +kernel
theorem d_tl_digest_245 : decode prog_1_method_36_code 245 = .ok (.aload_n 0, 1) := by decide +kernel
theorem d_tl_digest_246 : decode prog_1_method_36_code 246 = .ok (.bipush 9, 2) := by decide +kernel
theorem d_tl_digest_248 : decode prog_1_method_36_code 248 = .ok (.invokevirtual 324, 3) := by decide +kernel
theorem d_tl_digest_251 : decode prog_1_method_36_code 251 = .ok (.i2l, 1) := by decide +kernel
theorem d_tl_digest_252 : decode prog_1_method_36_code 252 = .ok (.ladd, 1) := by decide +kernel
theorem d_tl_digest_253 : decode prog_1_method_36_code 253 = .ok (.lstore_n 1, 1) := by decide +kernel
theorem d_tl_digest_254 : decode prog_1_method_36_code 254 = .ok (.ldc2_w 298, 3) := by decide +kernel
theorem d_tl_digest_257 : decode prog_1_method_36_code 257 = .ok (.lload_n 1, 1) := by decide +kernel
theorem d_tl_digest_258 : decode prog_1_method_36_code 258 = .ok (.lmul, 1) := by decide +kernel
theorem d_tl_digest_259 : decode prog_1_method_36_code 259 = .ok (.aload_n 0, 1) := by decide +kernel
theorem d_tl_digest_260 : decode prog_1_method_36_code 260 = .ok (.iconst 1, 1) := by decide +kernel
theorem d_tl_digest_261 : decode prog_1_method_36_code 261 = .ok (.invokevirtual 327, 3) := by decide +kernel
theorem d_tl_digest_264 : decode prog_1_method_36_code 264 = .ok (.i2l, 1) := by decide +kernel
theorem d_tl_digest_265 : decode prog_1_method_36_code 265 = .ok (.ladd, 1) := by decide +kernel
theorem d_tl_digest_266 : decode prog_1_method_36_code 266 = .ok (.lreturn, 1) := by decide +kernel
