theorem d_ji_bitCount_0 : decode prog_15_method_49_code 0 = .ok (.iload_n 0, 1) := by decide +kernel
theorem d_ji_bitCount_1 : decode prog_15_method_49_code 1 = .ok (.iload_n 0, 1) := by decide +kernel
theorem d_ji_bitCount_2 : decode prog_15_method_49_code 2 = .ok (.iconst 1, 1) := by decide +kernel
theorem d_ji_bitCount_3 : decode prog_15_method_49_code 3 = .ok (.iushr, 1) := by decide +kernel
theorem d_ji_bitCount_4 : decode prog_15_method_49_code 4 = .ok (.ldc_w 265, 3) := by decide +kernel
theorem d_ji_bitCount_7 : decode prog_15_method_49_code 7 = .ok (.iand, 1) := by decide +kernel
theorem d_ji_bitCount_8 : decode prog_15_method_49_code 8 = .ok (.isub, 1) := by decide +kernel
theorem d_ji_bitCount_9 : decode prog_15_method_49_code 9 = .ok (.istore_n 0, 1) := by decide +kernel
theorem d_ji_bitCount_10 : decode prog_15_method_49_code 10 = .ok (.iload_n 0, 1) := by decide +kernel
theorem d_ji_bitCount_11 : decode prog_15_method_49_code 11 = .ok (.ldc_w 266, 3) := by decide +kernel
theorem d_ji_bitCount_14 : decode prog_15_method_49_code 14 = .ok (.iand, 1) := by decide +kernel
theorem d_ji_bitCount_15 : decode prog_15_method_49_code 15 = .ok (.iload_n 0, 1) := by decide +kernel
theorem d_ji_bitCount_16 : decode prog_15_method_49_code 16 = .ok (.iconst 2, 1) := by decide +kernel
theorem d_ji_bitCount_17 : decode prog_15_method_49_code 17 = .ok (.iushr, 1) := by decide +kernel
theorem d_ji_bitCount_18 : decode prog_15_method_49_code 18 = .ok (.ldc_w 266, 3) := by decide +kernel
theorem d_ji_bitCount_21 : decode prog_15_method_49_code 21 = .ok (.iand, 1) := by decide +kernel
theorem d_ji_bitCount_22 : decode prog_15_method_49_code 22 = .ok (.iadd, 1) := by decide +kernel
theorem d_ji_bitCount_23 : decode prog_15_method_49_code 23 = .ok (.istore_n 0, 1) := by decide +kernel
theorem d_ji_bitCount_24 : decode prog_15_method_49_code 24 = .ok (.iload_n 0, 1) := by decide +kernel
theorem d_ji_bitCount_25 : decode prog_15_method_49_code 25 = .ok (.iload_n 0, 1) := by decide +kernel
theorem d_ji_bitCount_26 : decode prog_15_method_49_code 26 = .ok (.iconst 4, 1) := by decide +kernel
theorem d_ji_bitCount_27 : decode prog_15_method_49_code 27 = .ok (.iushr, 1) := by decide +kernel
theorem d_ji_bitCount_28 : decode prog_15_method_49_code 28 = .ok (.iadd, 1) := by decide +kernel
theorem d_ji_bitCount_29 : decode prog_15_method_49_code 29 = .ok (.ldc_w 267, 3) := by decide +kernel
theorem d_ji_bitCount_32 : decode prog_15_method_49_code 32 = .ok (.iand, 1) := by decide +kernel
theorem d_ji_bitCount_33 : decode prog_15_method_49_code 33 = .ok (.istore_n 0, 1) := by decide +kernel
theorem d_ji_bitCount_34 : decode prog_15_method_49_code 34 = .ok (.iload_n 0, 1) := by decide +kernel
theorem d_ji_bitCount_35 : decode prog_15_method_49_code 35 = .ok (.iload_n 0, 1) := by decide +kernel
theorem d_ji_bitCount_36 : decode prog_15_method_49_code 36 = .ok (.bipush 8, 2) := by decide +kernel
theorem d_ji_bitCount_38 : decode prog_15_method_49_code 38 = .ok (.iushr, 1) := by decide +kernel
theorem d_ji_bitCount_39 : decode prog_15_method_49_code 39 = .ok (.iadd, 1) := by decide +kernel
theorem d_ji_bitCount_40 : decode prog_15_method_49_code 40 = .ok (.istore_n 0, 1) := by decide +kernel
theorem d_ji_bitCount_41 : decode prog_15_method_49_code 41 = .ok (.iload_n 0, 1) := by decide +kernel
theorem d_ji_bitCount_42 : decode prog_15_method_49_code 42 = .ok (.iload_n 0, 1) := by decide +kernel
theorem d_ji_bitCount_43 : decode prog_15_method_49_code 43 = .ok (.bipush 16, 2) := by decide +kernel
theorem d_ji_bitCount_45 : decode prog_15_method_49_code 45 = .ok (.iushr, 1) := by decide +kernel
theorem d_ji_bitCount_46 : decode prog_15_method_49_code 46 = .ok (.iadd, 1) := by decide +kernel
theorem d_ji_bitCount_47 : decode prog_15_method_49_code 47 = .ok (.istore_n 0, 1) := by decide +kernel
theorem d_ji_bitCount_48 : decode prog_15_method_49_code 48 = .ok (.iload_n 0, 1) := by decide +kernel
theorem d_ji_bitCount_49 : decode prog_15_method_49_code 49 = .ok (.bipush 63, 2) := by decide +kernel
theorem d_ji_bitCount_51 : decode prog_15_method_49_code 51 = .ok (.iand, 1) := by decide +kernel
theorem d_ji_bitCount_52 : decode prog_15_method_49_code 52 = .ok (.ireturn, 1) := by decide +kernel
theorem d_jl_bitCount_0 : decode prog_16_method_50_code 0 = .ok (.lload_n 0, 1) := by decide +kernel
theorem d_jl_bitCount_1 : decode prog_16_method_50_code 1 = .ok (.lload_n 0, 1) := by decide +kernel
theorem d_jl_bitCount_2 : decode prog_16_method_50_code 2 = .ok (.iconst 1, 1) := by decide +kernel
theorem d_jl_bitCount_3 : decode prog_16_method_50_code 3 = .ok (.lushr, 1) := by decide +kernel
theorem d_jl_bitCount_4 : decode prog_16_method_50_code 4 = .ok (.ldc2_w 314, 3) := by decide +kernel
theorem d_jl_bitCount_7 : decode prog_16_method_50_code 7 = .ok (.land, 1) := by decide +kernel
theorem d_jl_bitCount_8 : decode prog_16_method_50_code 8 = .ok (.lsub, 1) := by decide +kernel
theorem d_jl_bitCount_9 : decode prog_16_method_50_code 9 = .ok (.lstore_n 0, 1) := by decide +kernel
theorem d_jl_bitCount_10 : decode prog_16_method_50_code 10 = .ok (.lload_n 0, 1) := by decide +kernel
theorem d_jl_bitCount_11 : decode prog_16_method_50_code 11 = .ok (.ldc2_w 316, 3) := by decide +kernel
theorem d_jl_bitCount_14 : decode prog_16_method_50_code 14 = .ok (.land, 1) := by decide +kernel
theorem d_jl_bitCount_15 : decode prog_16_method_50_code 15 = .ok (.lload_n 0, 1) := by decide +kernel
theorem d_jl_bitCount_16 : decode prog_16_method_50_code 16 = .ok (.iconst 2, 1) := by decide +kernel
theorem d_jl_bitCount_17 : decode prog_16_method_50_code 17 = .ok (.lushr, 1) := by decide +kernel
theorem d_jl_bitCount_18 : decode prog_16_method_50_code 18 = .ok (.ldc2_w 316, 3) := by decide +kernel
theorem d_jl_bitCount_21 : decode prog_16_method_50_code 21 = .ok (.land, 1) := by decide +kernel
theorem d_jl_bitCount_22 : decode prog_16_method_50_code 22 = .ok (.ladd, 1) := by decide +kernel
theorem d_jl_bitCount_23 : decode prog_16_method_50_code 23 = .ok (.lstore_n 0, 1) := by decide +kernel
theorem d_jl_bitCount_24 : decode prog_16_method_50_code 24 = .ok (.lload_n 0, 1) := by decide +kernel
theorem d_jl_bitCount_25 : decode prog_16_method_50_code 25 = .ok (.lload_n 0, 1) := by decide +kernel
theorem d_jl_bitCount_26 : decode prog_16_method_50_code 26 = .ok (.iconst 4, 1) := by decide +kernel
theorem d_jl_bitCount_27 : decode prog_16_method_50_code 27 = .ok (.lushr, 1) := by decide +kernel
theorem d_jl_bitCount_28 : decode prog_16_method_50_code 28 = .ok (.ladd, 1) := by decide +kernel
theorem d_jl_bitCount_29 : decode prog_16_method_50_code 29 = .ok (.ldc2_w 318, 3) := by decide +kernel
theorem d_jl_bitCount_32 : decode prog_16_method_50_code 32 = .ok (.land, 1) := by decide +kernel
theorem d_jl_bitCount_33 : decode prog_16_method_50_code 33 = .ok (.lstore_n 0, 1) := by decide +kernel
theorem d_jl_bitCount_34 : decode prog_16_method_50_code 34 = .ok (.lload_n 0, 1) := by decide +kernel
theorem d_jl_bitCount_35 : decode prog_16_method_50_code 35 = .ok (.lload_n 0, 1) := by decide +kernel
theorem d_jl_bitCount_36 : decode prog_16_method_50_code 36 = .ok (.bipush 8, 2) := by decide +kernel
theorem d_jl_bitCount_38 : decode prog_16_method_50_code 38 = .ok (.lushr, 1) := by decide +kernel
theorem d_jl_bitCount_39 : decode prog_16_method_50_code 39 = .ok (.ladd, 1) := by decide +kernel
theorem d_jl_bitCount_40 : decode prog_16_method_50_code 40 = .ok (.lstore_n 0, 1) := by decide +kernel
theorem d_jl_bitCount_41 : decode prog_16_method_50_code 41 = .ok (.lload_n 0, 1) := by decide +kernel
theorem d_jl_bitCount_42 : decode prog_16_method_50_code 42 = .ok (.lload_n 0, 1) := by decide +kernel
theorem d_jl_bitCount_43 : decode prog_16_method_50_code 43 = .ok (.bipush 16, 2) := by decide +kernel
theorem d_jl_bitCount_45 : decode prog_16_method_50_code 45 = .ok (.lushr, 1) := by decide +kernel
theorem d_jl_bitCount_46 : decode prog_16_method_50_code 46 = .ok (.ladd, 1) := by decide +kernel
theorem d_jl_bitCount_47 : decode prog_16_method_50_code 47 = .ok (.lstore_n 0, 1) := by decide +kernel
theorem d_jl_bitCount_48 : decode prog_16_method_50_code 48 = .ok (.lload_n 0, 1) := by decide +kernel
theorem d_jl_bitCount_49 : decode prog_16_method_50_code 49 = .ok (.lload_n 0, 1) := by decide +kernel
theorem d_jl_bitCount_50 : decode prog_16_method_50_code 50 = .ok (.bipush 32, 2) := by decide +kernel
theorem d_jl_bitCount_52 : decode prog_16_method_50_code 52 = .ok (.lushr, 1) := by decide +kernel
theorem d_jl_bitCount_53 : decode prog_16_method_50_code 53 = .ok (.ladd, 1) := by decide +kernel
theorem d_jl_bitCount_54 : decode prog_16_method_50_code 54 = .ok (.lstore_n 0, 1) := by decide +kernel
theorem d_jl_bitCount_55 : decode prog_16_method_50_code 55 = .ok (.lload_n 0, 1) := by decide +kernel
theorem d_jl_bitCount_56 : decode prog_16_method_50_code 56 = .ok (.l2i, 1) := by decide +kernel
theorem d_jl_bitCount_57 : decode prog_16_method_50_code 57 = .ok (.bipush 127, 2) := by decide +kernel
theorem d_jl_bitCount_59 : decode prog_16_method_50_code 59 = .ok (.iand, 1) := by decide +kernel
theorem d_jl_bitCount_60 : decode prog_16_method_50_code 60 = .ok (.ireturn, 1) := by decide +kernel
theorem d_js_length_0 : decode prog_18_method_54_code 0 = .ok (.aload_n 0, 1) := by decide +kernel
theorem d_js_length_1 : decode prog_18_method_54_code 1 = .ok (.getfield 9, 3) := by decide +kernel
theorem d_js_length_4 : decode prog_18_method_54_code 4 = .ok (.arraylength, 1) := by decide +kernel
theorem d_js_length_5 : decode prog_18_method_54_code 5 = .ok (.aload_n 0, 1) := by decide +kernel
theorem d_js_length_6 : decode prog_18_method_54_code 6 = .ok (.invokevirtual 335, 3) := by decide +kernel
theorem d_js_length_9 : decode prog_18_method_54_code 9 = .ok (.ishr, 1) := by decide +kernel
theorem d_js_length_10 : decode prog_18_method_54_code 10 = .ok (.ireturn, 1) := by decide +kernel
theorem d_js_indexOf1_0 : decode prog_18_method_79_code 0 = .ok (.aload_n 0, 1) := by decide +kernel
theorem d_js_indexOf1_1 : decode prog_18_method_79_code 1 = .ok (.iload_n 1, 1) := by decide +kernel
theorem d_js_indexOf1_2 : decode prog_18_method_79_code 2 = .ok (.iconst 0, 1) := by decide +kernel
theorem d_js_indexOf1_3 : decode prog_18_method_79_code 3 = .ok (.invokevirtual 633, 3) := by decide +kernel
theorem d_js_indexOf1_6 : decode prog_18_method_79_code 6 = .ok (.ireturn, 1) := by decide +kernel
theorem d_js_indexOf2_0 : decode prog_18_method_80_code 0 = .ok (.aload_n 0, 1) := by decide +kernel
theorem d_js_indexOf2_1 : decode prog_18_method_80_code 1 = .ok (.invokevirtual 492, 3) := by decide +kernel
theorem d_js_indexOf2_4 : decode prog_18_method_80_code 4 = .ok (.ifCond .eq 19, 3) := by decide +kernel
theorem d_js_indexOf2_7 : decode prog_18_method_80_code 7 = .ok (.aload_n 0, 1) := by decide +kernel
theorem d_js_indexOf2_8 : decode prog_18_method_80_code 8 = .ok (.getfield 9, 3) := by decide +kernel
theorem d_js_indexOf2_11 : decode prog_18_method_80_code 11 = .ok (.iload_n 1, 1) := by decide +kernel
theorem d_js_indexOf2_12 : decode prog_18_method_80_code 12 = .ok (.iload_n 2, 1) := by decide +kernel
theorem d_js_indexOf2_13 : decode prog_18_method_80_code 13 = .ok (.aload_n 0, 1) := by decide +kernel
theorem d_js_indexOf2_14 : decode prog_18_method_80_code 14 = .ok (.invokevirtual 505, 3) := by decide +kernel
theorem d_js_indexOf2_17 : decode prog_18_method_80_code 17 = .ok (.invokestatic 637, 3) := by decide +kernel
theorem d_js_indexOf2_20 : decode prog_18_method_80_code 20 = .ok (.goto 16, 3) := by decide +kernel
theorem d_js_indexOf2_23 : decode prog_18_method_80_code 23 = .ok (.aload_n 0, 1) := by decide +kernel
theorem d_js_indexOf2_24 : decode prog_18_method_80_code 24 = .ok (.getfield 9, 3) := by decide +kernel
theorem d_js_indexOf2_27 : decode prog_18_method_80_code 27 = .ok (.iload_n 1, 1) := by decide +kernel
theorem d_js_indexOf2_28 : decode prog_18_method_80_code 28 = .ok (.iload_n 2, 1) := by decide +kernel
theorem d_js_indexOf2_29 : decode prog_18_method_80_code 29 = .ok (.aload_n 0, 1) := by decide +kernel
theorem d_js_indexOf2_30 : decode prog_18_method_80_code 30 = .ok (.invokevirtual 505, 3) := by decide +kernel
theorem d_js_indexOf2_33 : decode prog_18_method_80_code 33 = .ok (.invokestatic 640, 3) := by decide +kernel
theorem d_js_indexOf2_36 : decode prog_18_method_80_code 36 = .ok (.ireturn, 1) := by decide +kernel
theorem d_js_coder_0 : decode prog_18_method_152_code 0 = .ok (.getstatic 38, 3) := by decide +kernel
theorem d_js_coder_3 : decode prog_18_method_152_code 3 = .ok (.ifCond .eq 10, 3) := by decide +kernel
theorem d_js_coder_6 : decode prog_18_method_152_code 6 = .ok (.aload_n 0, 1) := by decide +kernel
theorem d_js_coder_7 : decode prog_18_method_152_code 7 = .ok (.getfield 15, 3) := by decide +kernel
theorem d_js_coder_10 : decode prog_18_method_152_code 10 = .ok (.goto 4, 3) := by decide +kernel
theorem d_js_coder_14 : decode prog_18_method_152_code 14 = .ok (.ireturn, 1) := by decide +kernel
theorem d_js_isLatin1_0 : decode prog_18_method_154_code 0 = .ok (.getstatic 38, 3) := by decide +kernel
theorem d_js_isLatin1_3 : decode prog_18_method_154_code 3 = .ok (.ifCond .eq 14, 3) := by decide +kernel
theorem d_js_isLatin1_6 : decode prog_18_method_154_code 6 = .ok (.aload_n 0, 1) := by decide +kernel
theorem d_js_isLatin1_7 : decode prog_18_method_154_code 7 = .ok (.getfield 15, 3) := by decide +kernel
theorem d_js_isLatin1_10 : decode prog_18_method_154_code 10 = .ok (.ifCond .ne 7, 3) := by decide +kernel
theorem d_js_isLatin1_13 : decode prog_18_method_154_code 13 = .ok (.iconst 1, 1) := by decide +kernel
theorem d_js_isLatin1_14 : decode prog_18_method_154_code 14 = .ok (.goto 4, 3) := by decide +kernel
theorem d_js_isLatin1_18 : decode prog_18_method_154_code 18 = .ok (.ireturn, 1) := by decide +kernel
theorem d_j1_canEncode_0 : decode prog_19_method_4_code 0 = .ok (.iload_n 0, 1) := by decide +kernel
theorem d_j1_canEncode_1 : decode prog_19_method_4_code 1 = .ok (.ifCond .lt 14, 3) := by decide +kernel
theorem d_j1_canEncode_4 : decode prog_19_method_4_code 4 = .ok (.iload_n 0, 1) := by decide +kernel
theorem d_j1_canEncode_5 : decode prog_19_method_4_code 5 = .ok (.sipush 255, 3) := by decide +kernel
theorem d_j1_canEncode_8 : decode prog_19_method_4_code 8 = .ok (.if_icmp .gt 7, 3) := by decide +kernel
theorem d_j1_canEncode_11 : decode prog_19_method_4_code 11 = .ok (.iconst 1, 1) := by decide +kernel
theorem d_j1_canEncode_12 : decode prog_19_method_4_code 12 = .ok (.goto 4, 3) := by decide +kernel
theorem d_j1_canEncode_15 : decode prog_19_method_4_code 15 = .ok (.iconst 0, 1) := by decide +kernel
theorem d_j1_canEncode_16 : decode prog_19_method_4_code 16 = .ok (.ireturn, 1) := by decide +kernel
theorem d_j1_indexOf3_0 : decode prog_19_method_22_code 0 = .ok (.iload_n 1, 1) := by decide +kernel
theorem d_j1_indexOf3_1 : decode prog_19_method_22_code 1 = .ok (.invokestatic 88, 3) := by decide +kernel
theorem d_j1_indexOf3_4 : decode prog_19_method_22_code 4 = .ok (.ifCond .ne 5, 3) := by decide +kernel
theorem d_j1_indexOf3_7 : decode prog_19_method_22_code 7 = .ok (.iconst (-1), 1) := by decide +kernel
theorem d_j1_indexOf3_8 : decode prog_19_method_22_code 8 = .ok (.ireturn, 1) := by decide +kernel
theorem d_j1_indexOf3_9 : decode prog_19_method_22_code 9 = .ok (.iload_n 2, 1) := by decide +kernel
theorem d_j1_indexOf3_10 : decode prog_19_method_22_code 10 = .ok (.iconst 0, 1) := by decide +kernel
theorem d_j1_indexOf3_11 : decode prog_19_method_22_code 11 = .ok (.invokestatic 92, 3) := by decide +kernel
theorem d_j1_indexOf3_14 : decode prog_19_method_22_code 14 = .ok (.istore_n 2, 1) := by decide +kernel
theorem d_j1_indexOf3_15 : decode prog_19_method_22_code 15 = .ok (.iload_n 3, 1) := by decide +kernel
theorem d_j1_indexOf3_16 : decode prog_19_method_22_code 16 = .ok (.aload_n 0, 1) := by decide +kernel
theorem d_j1_indexOf3_17 : decode prog_19_method_22_code 17 = .ok (.arraylength, 1) := by decide +kernel
theorem d_j1_indexOf3_18 : decode prog_19_method_22_code 18 = .ok (.invokestatic 38, 3) := by decide +kernel
theorem d_j1_indexOf3_21 : decode prog_19_method_22_code 21 = .ok (.istore_n 3, 1) := by decide +kernel
theorem d_j1_indexOf3_22 : decode prog_19_method_22_code 22 = .ok (.iload_n 2, 1) := by decide +kernel
theorem d_j1_indexOf3_23 : decode prog_19_method_22_code 23 = .ok (.iload_n 3, 1) := by decide +kernel
theorem d_j1_indexOf3_24 : decode prog_19_method_22_code 24 = .ok (.if_icmp .lt 5, 3) := by decide +kernel
theorem d_j1_indexOf3_27 : decode prog_19_method_22_code 27 = .ok (.iconst (-1), 1) := by decide +kernel
theorem d_j1_indexOf3_28 : decode prog_19_method_22_code 28 = .ok (.ireturn, 1) := by decide +kernel
theorem d_j1_indexOf3_29 : decode prog_19_method_22_code 29 = .ok (.aload_n 0, 1) := by decide +kernel
theorem d_j1_indexOf3_30 : decode prog_19_method_22_code 30 = .ok (.iload_n 1, 1) := by decide +kernel
theorem d_j1_indexOf3_31 : decode prog_19_method_22_code 31 = .ok (.iload_n 2, 1) := by decide +kernel
theorem d_j1_indexOf3_32 : decode prog_19_method_22_code 32 = .ok (.iload_n 3, 1) := by decide +kernel
theorem d_j1_indexOf3_33 : decode prog_19_method_22_code 33 = .ok (.invokestatic 95, 3) := by decide +kernel
theorem d_j1_indexOf3_36 : decode prog_19_method_22_code 36 = .ok (.ireturn, 1) := by decide +kernel
theorem d_j1_indexOfChar_0 : decode prog_19_method_23_code 0 = .ok (.iload_n 1, 1) := by decide +kernel
theorem d_j1_indexOfChar_1 : decode prog_19_method_23_code 1 = .ok (.i2b, 1) := by decide +kernel
theorem d_j1_indexOfChar_2 : decode prog_19_method_23_code 2 = .ok (.istore 4, 2) := by decide +kernel
theorem d_j1_indexOfChar_4 : decode prog_19_method_23_code 4 = .ok (.iload_n 2, 1) := by decide +kernel
theorem d_j1_indexOfChar_5 : decode prog_19_method_23_code 5 = .ok (.istore 5, 2) := by decide +kernel
theorem d_j1_indexOfChar_7 : decode prog_19_method_23_code 7 = .ok (.iload 5, 2) := by decide +kernel
theorem d_j1_indexOfChar_9 : decode prog_19_method_23_code 9 = .ok (.iload_n 3, 1) := by decide +kernel
theorem d_j1_indexOfChar_10 : decode prog_19_method_23_code 10 = .ok (.if_icmp .ge 21, 3) := by decide +kernel
theorem d_j1_indexOfChar_13 : decode prog_19_method_23_code 13 = .ok (.aload_n 0, 1) := by decide +kernel
theorem d_j1_indexOfChar_14 : decode prog_19_method_23_code 14 = .ok (.iload 5, 2) := by decide +kernel
theorem d_j1_indexOfChar_16 : decode prog_19_method_23_code 16 = .ok (.baload, 1) := by decide +kernel
theorem d_j1_indexOfChar_17 : decode prog_19_method_23_code 17 = .ok (.iload 4, 2) := by decide +kernel
theorem d_j1_indexOfChar_19 : decode prog_19_method_23_code 19 = .ok (.if_icmp .ne 6, 3) := by decide +kernel
theorem d_j1_indexOfChar_22 : decode prog_19_method_23_code 22 = .ok (.iload 5, 2) := by decide +kernel
theorem d_j1_indexOfChar_24 : decode prog_19_method_23_code 24 = .ok (.ireturn, 1) := by decide +kernel
theorem d_j1_indexOfChar_25 : decode prog_19_method_23_code 25 = .ok (.iinc 5 1, 3) := by decide +kernel
theorem d_j1_indexOfChar_28 : decode prog_19_method_23_code 28 = .ok (.goto (-21), 3) := by decide +kernel
theorem d_j1_indexOfChar_31 : decode prog_19_method_23_code 31 = .ok (.iconst (-1), 1) := by decide +kernel
theorem d_j1_indexOfChar_32 : decode prog_19_method_23_code 32 = .ok (.ireturn, 1) := by decide +kernel
theorem d_tu_at_0 : decode prog_9_method_2_code 0 = .ok (.iload_n 1, 1) := by decide +kernel
theorem d_tu_at_1 : decode prog_9_method_2_code 1 = .ok (.ifCond .lt 20, 3) := by decide +kernel
theorem d_tu_at_4 : decode prog_9_method_2_code 4 = .ok (.iload_n 1, 1) := by decide +kernel
theorem d_tu_at_5 : decode prog_9_method_2_code 5 = .ok (.aload_n 0, 1) := by decide +kernel
theorem d_tu_at_6 : decode prog_9_method_2_code 6 = .ok (.getfield 15, 3) := by decide +kernel
theorem d_tu_at_9 : decode prog_9_method_2_code 9 = .ok (.if_icmp .ge 12, 3) := by decide +kernel
theorem d_tu_at_12 : decode prog_9_method_2_code 12 = .ok (.aload_n 0, 1) := by decide +kernel
theorem d_tu_at_13 : decode prog_9_method_2_code 13 = .ok (.getfield 9, 3) := by decide +kernel
theorem d_tu_at_16 : decode prog_9_method_2_code 16 = .ok (.iload_n 1, 1) := by decide +kernel
theorem d_tu_at_17 : decode prog_9_method_2_code 17 = .ok (.iaload, 1) := by decide +kernel
theorem d_tu_at_18 : decode prog_9_method_2_code 18 = .ok (.goto 4, 3) := by decide +kernel
theorem d_tu_at_21 : decode prog_9_method_2_code 21 = .ok (.iconst (-1), 1) := by decide +kernel
theorem d_tu_at_22 : decode prog_9_method_2_code 22 = .ok (.ireturn, 1) := by decide +kernel
theorem d_tu_add_0 : decode prog_9_method_3_code 0 = .ok (.aload_n 0, 1) := by decide +kernel
theorem d_tu_add_1 : decode prog_9_method_3_code 1 = .ok (.getfield 15, 3) := by decide +kernel
theorem d_tu_add_4 : decode prog_9_method_3_code 4 = .ok (.bipush 40, 2) := by decide +kernel
theorem d_tu_add_6 : decode prog_9_method_3_code 6 = .ok (.if_icmp .ge 23, 3) := by decide +kernel
theorem d_tu_add_9 : decode prog_9_method_3_code 9 = .ok (.aload_n 0, 1) := by decide +kernel
theorem d_tu_add_10 : decode prog_9_method_3_code 10 = .ok (.getfield 9, 3) := by decide +kernel
theorem d_tu_add_13 : decode prog_9_method_3_code 13 = .ok (.aload_n 0, 1) := by decide +kernel
theorem d_tu_add_14 : decode prog_9_method_3_code 14 = .ok (.getfield 15, 3) := by decide +kernel
theorem d_tu_add_17 : decode prog_9_method_3_code 17 = .ok (.iload_n 1, 1) := by decide +kernel
theorem d_tu_add_18 : decode prog_9_method_3_code 18 = .ok (.iastore, 1) := by decide +kernel
theorem d_tu_add_19 : decode prog_9_method_3_code 19 = .ok (.aload_n 0, 1) := by decide +kernel
theorem d_tu_add_20 : decode prog_9_method_3_code 20 = .ok (.dup, 1) := by decide +kernel
theorem d_tu_add_21 : decode prog_9_method_3_code 21 = .ok (.getfield 15, 3) := by decide +kernel
theorem d_tu_add_24 : decode prog_9_method_3_code 24 = .ok (.iconst 1, 1) := by decide +kernel
theorem d_tu_add_25 : decode prog_9_method_3_code 25 = .ok (.iadd, 1) := by decide +kernel
theorem d_tu_add_26 : decode prog_9_method_3_code 26 = .ok (.putfield 15, 3) := by decide +kernel
theorem d_tu_add_29 : decode prog_9_method_3_code 29 = .ok (.return_, 1) := by decide +kernel
theorem d_tu_become_0 : decode prog_9_method_4_code 0 = .ok (.aload_n 1, 1) := by decide +kernel
theorem d_tu_become_1 : decode prog_9_method_4_code 1 = .ok (.getfield 9, 3) := by decide +kernel
theorem d_tu_become_4 : decode prog_9_method_4_code 4 = .ok (.iconst 0, 1) := by decide +kernel
theorem d_tu_become_5 : decode prog_9_method_4_code 5 = .ok (.aload_n 0, 1) := by decide +kernel
theorem d_tu_become_6 : decode prog_9_method_4_code 6 = .ok (.getfield 9, 3) := by decide +kernel
theorem d_tu_become_9 : decode prog_9_method_4_code 9 = .ok (.iconst 0, 1) := by decide +kernel
theorem d_tu_become_10 : decode prog_9_method_4_code 10 = .ok (.aload_n 1, 1) := by decide +kernel
theorem d_tu_become_11 : decode prog_9_method_4_code 11 = .ok (.getfield 15, 3) := by decide +kernel
theorem d_tu_become_14 : decode prog_9_method_4_code 14 = .ok (.invokestatic 19, 3) := by decide +kernel
theorem d_tu_become_17 : decode prog_9_method_4_code 17 = .ok (.aload_n 0, 1) := by decide +kernel
theorem d_tu_become_18 : decode prog_9_method_4_code 18 = .ok (.aload_n 1, 1) := by decide +kernel
theorem d_tu_become_19 : decode prog_9_method_4_code 19 = .ok (.getfield 15, 3) := by decide +kernel
theorem d_tu_become_22 : decode prog_9_method_4_code 22 = .ok (.putfield 15, 3) := by decide +kernel
theorem d_tu_become_25 : decode prog_9_method_4_code 25 = .ok (.return_, 1) := by decide +kernel
theorem d_tu_becomeHummed_0 : decode prog_9_method_5_code 0 = .ok (.aload_n 0, 1) := by decide +kernel
theorem d_tu_becomeHummed_1 : decode prog_9_method_5_code 1 = .ok (.iconst 0, 1) := by decide +kernel
theorem d_tu_becomeHummed_2 : decode prog_9_method_5_code 2 = .ok (.putfield 15, 3) := by decide +kernel
theorem d_tu_becomeHummed_5 : decode prog_9_method_5_code 5 = .ok (.iconst 0, 1) := by decide +kernel
theorem d_tu_becomeHummed_6 : decode prog_9_method_5_code 6 = .ok (.istore_n 3, 1) := by decide +kernel
theorem d_tu_becomeHummed_7 : decode prog_9_method_5_code 7 = .ok (.iload_n 3, 1) := by decide +kernel
theorem d_tu_becomeHummed_8 : decode prog_9_method_5_code 8 = .ok (.aload_n 1, 1) := by decide +kernel
theorem d_tu_becomeHummed_9 : decode prog_9_method_5_code 9 = .ok (.getfield 15, 3) := by decide +kernel
theorem d_tu_becomeHummed_12 : decode prog_9_method_5_code 12 = .ok (.if_icmp .ge 72, 3) := by decide +kernel
theorem d_tu_becomeHummed_15 : decode prog_9_method_5_code 15 = .ok (.aload_n 1, 1) := by decide +kernel
theorem d_tu_becomeHummed_16 : decode prog_9_method_5_code 16 = .ok (.getfield 9, 3) := by decide +kernel
theorem d_tu_becomeHummed_19 : decode prog_9_method_5_code 19 = .ok (.iload_n 3, 1) := by decide +kernel
theorem d_tu_becomeHummed_20 : decode prog_9_method_5_code 20 = .ok (.iaload, 1) := by decide +kernel
theorem d_tu_becomeHummed_21 : decode prog_9_method_5_code 21 = .ok (.istore 4, 2) := by decide +kernel
theorem d_tu_becomeHummed_23 : decode prog_9_method_5_code 23 = .ok (.iload 4, 2) := by decide +kernel
theorem d_tu_becomeHummed_25 : decode prog_9_method_5_code 25 = .ok (.aload_n 2, 1) := by decide +kernel
theorem d_tu_becomeHummed_26 : decode prog_9_method_5_code 26 = .ok (.getfield 25, 3) := by decide +kernel
theorem d_tu_becomeHummed_29 : decode prog_9_method_5_code 29 = .ok (.if_icmp .ne 7, 3) := by decide +kernel
theorem d_tu_becomeHummed_32 : decode prog_9_method_5_code 32 = .ok (.iconst 1, 1) := by decide +kernel
theorem d_tu_becomeHummed_33 : decode prog_9_method_5_code 33 = .ok (.goto 4, 3) := by decide +kernel
theorem d_tu_becomeHummed_36 : decode prog_9_method_5_code 36 = .ok (.iconst 0, 1) := by decide +kernel
theorem d_tu_becomeHummed_37 : decode prog_9_method_5_code 37 = .ok (.istore 5, 2) := by decide +kernel
theorem d_tu_becomeHummed_39 : decode prog_9_method_5_code 39 = .ok (.iload 5, 2) := by decide +kernel
theorem d_tu_becomeHummed_41 : decode prog_9_method_5_code 41 = .ok (.ifCond .eq 10, 3) := by decide +kernel
theorem d_tu_becomeHummed_44 : decode prog_9_method_5_code 44 = .ok (.aload_n 2, 1) := by decide +kernel
theorem d_tu_becomeHummed_45 : decode prog_9_method_5_code 45 = .ok (.getfield 30, 3) := by decide +kernel
theorem d_tu_becomeHummed_48 : decode prog_9_method_5_code 48 = .ok (.ifCond .ne 9, 3) := by decide +kernel
theorem d_tu_becomeHummed_51 : decode prog_9_method_5_code 51 = .ok (.aload_n 0, 1) := by decide +kernel
theorem d_tu_becomeHummed_52 : decode prog_9_method_5_code 52 = .ok (.iload 4, 2) := by decide +kernel
theorem d_tu_becomeHummed_54 : decode prog_9_method_5_code 54 = .ok (.invokevirtual 33, 3) := by decide +kernel
theorem d_tu_becomeHummed_57 : decode prog_9_method_5_code 57 = .ok (.iload 5, 2) := by decide +kernel
theorem d_tu_becomeHummed_59 : decode prog_9_method_5_code 59 = .ok (.ifCond .eq 19, 3) := by decide +kernel
theorem d_tu_becomeHummed_62 : decode prog_9_method_5_code 62 = .ok (.aload_n 2, 1) := by decide +kernel
theorem d_tu_becomeHummed_63 : decode prog_9_method_5_code 63 = .ok (.getfield 30, 3) := by decide +kernel
theorem d_tu_becomeHummed_66 : decode prog_9_method_5_code 66 = .ok (.iconst 1, 1) := by decide +kernel
theorem d_tu_becomeHummed_67 : decode prog_9_method_5_code 67 = .ok (.if_icmp .eq 11, 3) := by decide +kernel
theorem d_tu_becomeHummed_70 : decode prog_9_method_5_code 70 = .ok (.aload_n 0, 1) := by decide +kernel
theorem d_tu_becomeHummed_71 : decode prog_9_method_5_code 71 = .ok (.aload_n 2, 1) := by decide +kernel
theorem d_tu_becomeHummed_72 : decode prog_9_method_5_code 72 = .ok (.getfield 37, 3) := by decide +kernel
theorem d_tu_becomeHummed_75 : decode prog_9_method_5_code 75 = .ok (.invokevirtual 33, 3) := by decide +kernel
theorem d_tu_becomeHummed_78 : decode prog_9_method_5_code 78 = .ok (.iinc 3 1, 3) := by decide +kernel
theorem d_tu_becomeHummed_81 : decode prog_9_method_5_code 81 = .ok (.goto (-74), 3) := by decide +kernel
theorem d_tu_becomeHummed_84 : decode prog_9_method_5_code 84 = .ok (.return_, 1) := by decide +kernel
theorem d_tu_bits_0 : decode prog_9_method_6_code 0 = .ok (.iconst 0, 1) := by decide +kernel
theorem d_tu_bits_1 : decode prog_9_method_6_code 1 = .ok (.istore_n 1, 1) := by decide +kernel
theorem d_tu_bits_2 : decode prog_9_method_6_code 2 = .ok (.iconst 0, 1) := by decide +kernel
theorem d_tu_bits_3 : decode prog_9_method_6_code 3 = .ok (.istore_n 2, 1) := by decide +kernel
theorem d_tu_bits_4 : decode prog_9_method_6_code 4 = .ok (.iload_n 2, 1) := by decide +kernel
theorem d_tu_bits_5 : decode prog_9_method_6_code 5 = .ok (.aload_n 0, 1) := by decide +kernel
theorem d_tu_bits_6 : decode prog_9_method_6_code 6 = .ok (.getfield 15, 3) := by decide +kernel
theorem d_tu_bits_9 : decode prog_9_method_6_code 9 = .ok (.if_icmp .ge 20, 3) := by decide +kernel
theorem d_tu_bits_12 : decode prog_9_method_6_code 12 = .ok (.iload_n 1, 1) := by decide +kernel
theorem d_tu_bits_13 : decode prog_9_method_6_code 13 = .ok (.iconst 1, 1) := by decide +kernel
theorem d_tu_bits_14 : decode prog_9_method_6_code 14 = .ok (.aload_n 0, 1) := by decide +kernel
theorem d_tu_bits_15 : decode prog_9_method_6_code 15 = .ok (.getfield 9, 3) := by decide +kernel
theorem d_tu_bits_18 : decode prog_9_method_6_code 18 = .ok (.iload_n 2, 1) := by decide +kernel
theorem d_tu_bits_19 : decode prog_9_method_6_code 19 = .ok (.iaload, 1) := by decide +kernel
theorem d_tu_bits_20 : decode prog_9_method_6_code 20 = .ok (.ishl, 1) := by decide +kernel
theorem d_tu_bits_21 : decode prog_9_method_6_code 21 = .ok (.ior, 1) := by decide +kernel
theorem d_tu_bits_22 : decode prog_9_method_6_code 22 = .ok (.istore_n 1, 1) := by decide +kernel
theorem d_tu_bits_23 : decode prog_9_method_6_code 23 = .ok (.iinc 2 1, 3) := by decide +kernel
theorem d_tu_bits_26 : decode prog_9_method_6_code 26 = .ok (.goto (-22), 3) := by decide +kernel
theorem d_tu_bits_29 : decode prog_9_method_6_code 29 = .ok (.iload_n 1, 1) := by decide +kernel
theorem d_tu_bits_30 : decode prog_9_method_6_code 30 = .ok (.ireturn, 1) := by decide +kernel
theorem d_tu_isLike_0 : decode prog_9_method_7_code 0 = .ok (.aload_n 0, 1) := by decide +kernel
theorem d_tu_isLike_1 : decode prog_9_method_7_code 1 = .ok (.getfield 15, 3) := by decide +kernel
theorem d_tu_isLike_4 : decode prog_9_method_7_code 4 = .ok (.aload_n 1, 1) := by decide +kernel
theorem d_tu_isLike_5 : decode prog_9_method_7_code 5 = .ok (.getfield 15, 3) := by decide +kernel
theorem d_tu_isLike_8 : decode prog_9_method_7_code 8 = .ok (.if_icmp .eq 5, 3) := by decide +kernel
theorem d_tu_isLike_11 : decode prog_9_method_7_code 11 = .ok (.iconst 0, 1) := by decide +kernel
theorem d_tu_isLike_12 : decode prog_9_method_7_code 12 = .ok (.ireturn, 1) := by decide +kernel
theorem d_tu_isLike_13 : decode prog_9_method_7_code 13 = .ok (.iconst 0, 1) := by decide +kernel
theorem d_tu_isLike_14 : decode prog_9_method_7_code 14 = .ok (.istore_n 2, 1) := by decide +kernel
theorem d_tu_isLike_15 : decode prog_9_method_7_code 15 = .ok (.iload_n 2, 1) := by decide +kernel
theorem d_tu_isLike_16 : decode prog_9_method_7_code 16 = .ok (.aload_n 0, 1) := by decide +kernel
theorem d_tu_isLike_17 : decode prog_9_method_7_code 17 = .ok (.getfield 15, 3) := by decide +kernel
theorem d_tu_isLike_20 : decode prog_9_method_7_code 20 = .ok (.if_icmp .ge 26, 3) := by decide +kernel
theorem d_tu_isLike_23 : decode prog_9_method_7_code 23 = .ok (.aload_n 0, 1) := by decide +kernel
theorem d_tu_isLike_24 : decode prog_9_method_7_code 24 = .ok (.getfield 9, 3) := by decide +kernel
theorem d_tu_isLike_27 : decode prog_9_method_7_code 27 = .ok (.iload_n 2, 1) := by decide +kernel
theorem d_tu_isLike_28 : decode prog_9_method_7_code 28 = .ok (.iaload, 1) := by decide +kernel
theorem d_tu_isLike_29 : decode prog_9_method_7_code 29 = .ok (.aload_n 1, 1) := by decide +kernel
theorem d_tu_isLike_30 : decode prog_9_method_7_code 30 = .ok (.getfield 9, 3) := by decide +kernel
theorem d_tu_isLike_33 : decode prog_9_method_7_code 33 = .ok (.iload_n 2, 1) := by decide +kernel
theorem d_tu_isLike_34 : decode prog_9_method_7_code 34 = .ok (.iaload, 1) := by decide +kernel
theorem d_tu_isLike_35 : decode prog_9_method_7_code 35 = .ok (.if_icmp .eq 5, 3) := by decide +kernel
theorem d_tu_isLike_38 : decode prog_9_method_7_code 38 = .ok (.iconst 0, 1) := by decide +kernel
theorem d_tu_isLike_39 : decode prog_9_method_7_code 39 = .ok (.ireturn, 1) := by decide +kernel
theorem d_tu_isLike_40 : decode prog_9_method_7_code 40 = .ok (.iinc 2 1, 3) := by decide +kernel
theorem d_tu_isLike_43 : decode prog_9_method_7_code 43 = .ok (.goto (-28), 3) := by decide +kernel
theorem d_tu_isLike_46 : decode prog_9_method_7_code 46 = .ok (.iconst 1, 1) := by decide +kernel
theorem d_tu_isLike_47 : decode prog_9_method_7_code 47 = .ok (.ireturn, 1) := by decide +kernel
theorem d_tx_noteAt_0 : decode prog_8_method_2_code 0 = .ok (.aload_n 0, 1) := by decide +kernel
theorem d_tx_noteAt_1 : decode prog_8_method_2_code 1 = .ok (.getfield 15, 3) := by decide +kernel
theorem d_tx_noteAt_4 : decode prog_8_method_2_code 4 = .ok (.iload_n 1, 1) := by decide +kernel
theorem d_tx_noteAt_5 : decode prog_8_method_2_code 5 = .ok (.iaload, 1) := by decide +kernel
theorem d_tx_noteAt_6 : decode prog_8_method_2_code 6 = .ok (.bipush 97, 2) := by decide +kernel
theorem d_tx_noteAt_8 : decode prog_8_method_2_code 8 = .ok (.bipush 103, 2) := by decide +kernel
theorem d_tx_noteAt_10 : decode prog_8_method_2_code 10 = .ok (.invokestatic 19, 3) := by decide +kernel
theorem d_tx_noteAt_13 : decode prog_8_method_2_code 13 = .ok (.ifCond .eq 15, 3) := by decide +kernel
theorem d_tx_noteAt_16 : decode prog_8_method_2_code 16 = .ok (.aload_n 0, 1) := by decide +kernel
theorem d_tx_noteAt_17 : decode prog_8_method_2_code 17 = .ok (.getfield 15, 3) := by decide +kernel
theorem d_tx_noteAt_20 : decode prog_8_method_2_code 20 = .ok (.iload_n 1, 1) := by decide +kernel
theorem d_tx_noteAt_21 : decode prog_8_method_2_code 21 = .ok (.iaload, 1) := by decide +kernel
theorem d_tx_noteAt_22 : decode prog_8_method_2_code 22 = .ok (.bipush 97, 2) := by decide +kernel
theorem d_tx_noteAt_24 : decode prog_8_method_2_code 24 = .ok (.isub, 1) := by decide +kernel
theorem d_tx_noteAt_25 : decode prog_8_method_2_code 25 = .ok (.goto 4, 3) := by decide +kernel
theorem d_tx_noteAt_28 : decode prog_8_method_2_code 28 = .ok (.iconst (-1), 1) := by decide +kernel
theorem d_tx_noteAt_29 : decode prog_8_method_2_code 29 = .ok (.ireturn, 1) := by decide +kernel
theorem d_li_of_0 : decode prog_5_method_2_code 0 = .ok (.iconst 0, 1) := by decide +kernel
theorem d_li_of_1 : decode prog_5_method_2_code 1 = .ok (.istore_n 3, 1) := by decide +kernel
theorem d_li_of_2 : decode prog_5_method_2_code 2 = .ok (.iload_n 3, 1) := by decide +kernel
theorem d_li_of_3 : decode prog_5_method_2_code 3 = .ok (.bipush 7, 2) := by decide +kernel
theorem d_li_of_5 : decode prog_5_method_2_code 5 = .ok (.if_icmp .ge 16, 3) := by decide +kernel
theorem d_li_of_8 : decode prog_5_method_2_code 8 = .ok (.aload_n 0, 1) := by decide +kernel
theorem d_li_of_9 : decode prog_5_method_2_code 9 = .ok (.getfield 9, 3) := by decide +kernel
theorem d_li_of_12 : decode prog_5_method_2_code 12 = .ok (.iload_n 3, 1) := by decide +kernel
theorem d_li_of_13 : decode prog_5_method_2_code 13 = .ok (.lconst 0, 1) := by decide +kernel
theorem d_li_of_14 : decode prog_5_method_2_code 14 = .ok (.lastore, 1) := by decide +kernel
theorem d_li_of_15 : decode prog_5_method_2_code 15 = .ok (.iinc 3 1, 3) := by decide +kernel
theorem d_li_of_18 : decode prog_5_method_2_code 18 = .ok (.goto (-16), 3) := by decide +kernel
theorem d_li_of_21 : decode prog_5_method_2_code 21 = .ok (.iconst 0, 1) := by decide +kernel
theorem d_li_of_22 : decode prog_5_method_2_code 22 = .ok (.istore_n 3, 1) := by decide +kernel
theorem d_li_of_23 : decode prog_5_method_2_code 23 = .ok (.iload_n 3, 1) := by decide +kernel
theorem d_li_of_24 : decode prog_5_method_2_code 24 = .ok (.aload_n 1, 1) := by decide +kernel
theorem d_li_of_25 : decode prog_5_method_2_code 25 = .ok (.getfield 15, 3) := by decide +kernel
theorem d_li_of_28 : decode prog_5_method_2_code 28 = .ok (.if_icmp .ge 26, 3) := by decide +kernel
theorem d_li_of_31 : decode prog_5_method_2_code 31 = .ok (.aload_n 0, 1) := by decide +kernel
theorem d_li_of_32 : decode prog_5_method_2_code 32 = .ok (.getfield 9, 3) := by decide +kernel
theorem d_li_of_35 : decode prog_5_method_2_code 35 = .ok (.aload_n 1, 1) := by decide +kernel
theorem d_li_of_36 : decode prog_5_method_2_code 36 = .ok (.getfield 21, 3) := by decide +kernel
theorem d_li_of_39 : decode prog_5_method_2_code 39 = .ok (.iload_n 3, 1) := by decide +kernel
theorem d_li_of_40 : decode prog_5_method_2_code 40 = .ok (.iaload, 1) := by decide +kernel
theorem d_li_of_41 : decode prog_5_method_2_code 41 = .ok (.dup2, 1) := by decide +kernel
theorem d_li_of_42 : decode prog_5_method_2_code 42 = .ok (.laload, 1) := by decide +kernel
theorem d_li_of_43 : decode prog_5_method_2_code 43 = .ok (.lconst 1, 1) := by decide +kernel
theorem d_li_of_44 : decode prog_5_method_2_code 44 = .ok (.iload_n 3, 1) := by decide +kernel
theorem d_li_of_45 : decode prog_5_method_2_code 45 = .ok (.lshl, 1) := by decide +kernel
theorem d_li_of_46 : decode prog_5_method_2_code 46 = .ok (.lor, 1) := by decide +kernel
theorem d_li_of_47 : decode prog_5_method_2_code 47 = .ok (.lastore, 1) := by decide +kernel
theorem d_li_of_48 : decode prog_5_method_2_code 48 = .ok (.iinc 3 1, 3) := by decide +kernel
theorem d_li_of_51 : decode prog_5_method_2_code 51 = .ok (.goto (-28), 3) := by decide +kernel
theorem d_li_of_54 : decode prog_5_method_2_code 54 = .ok (.ldc2_w 25, 3) := by decide +kernel
theorem d_li_of_57 : decode prog_5_method_2_code 57 = .ok (.lstore_n 3, 1) := by decide +kernel
theorem d_li_of_58 : decode prog_5_method_2_code 58 = .ok (.iconst 0, 1) := by decide +kernel
theorem d_li_of_59 : decode prog_5_method_2_code 59 = .ok (.istore 5, 2) := by decide +kernel
theorem d_li_of_61 : decode prog_5_method_2_code 61 = .ok (.iload 5, 2) := by decide +kernel
theorem d_li_of_63 : decode prog_5_method_2_code 63 = .ok (.aload_n 2, 1) := by decide +kernel
theorem d_li_of_64 : decode prog_5_method_2_code 64 = .ok (.getfield 15, 3) := by decide +kernel
theorem d_li_of_67 : decode prog_5_method_2_code 67 = .ok (.if_icmp .ge 35, 3) := by decide +kernel
theorem d_li_of_70 : decode prog_5_method_2_code 70 = .ok (.lload_n 3, 1) := by decide +kernel
theorem d_li_of_71 : decode prog_5_method_2_code 71 = .ok (.aload_n 0, 1) := by decide +kernel
theorem d_li_of_72 : decode prog_5_method_2_code 72 = .ok (.getfield 9, 3) := by decide +kernel
theorem d_li_of_75 : decode prog_5_method_2_code 75 = .ok (.aload_n 2, 1) := by decide +kernel
theorem d_li_of_76 : decode prog_5_method_2_code 76 = .ok (.getfield 21, 3) := by decide +kernel
theorem d_li_of_79 : decode prog_5_method_2_code 79 = .ok (.iload 5, 2) := by decide +kernel
theorem d_li_of_81 : decode prog_5_method_2_code 81 = .ok (.iaload, 1) := by decide +kernel
theorem d_li_of_82 : decode prog_5_method_2_code 82 = .ok (.laload, 1) := by decide +kernel
theorem d_li_of_83 : decode prog_5_method_2_code 83 = .ok (.land, 1) := by decide +kernel
theorem d_li_of_84 : decode prog_5_method_2_code 84 = .ok (.lstore 6, 2) := by decide +kernel
theorem d_li_of_86 : decode prog_5_method_2_code 86 = .ok (.lload_n 3, 1) := by decide +kernel
theorem d_li_of_87 : decode prog_5_method_2_code 87 = .ok (.lload 6, 2) := by decide +kernel
theorem d_li_of_89 : decode prog_5_method_2_code 89 = .ok (.ladd, 1) := by decide +kernel
theorem d_li_of_90 : decode prog_5_method_2_code 90 = .ok (.lload_n 3, 1) := by decide +kernel
theorem d_li_of_91 : decode prog_5_method_2_code 91 = .ok (.lload 6, 2) := by decide +kernel
theorem d_li_of_93 : decode prog_5_method_2_code 93 = .ok (.lsub, 1) := by decide +kernel
theorem d_li_of_94 : decode prog_5_method_2_code 94 = .ok (.lor, 1) := by decide +kernel
theorem d_li_of_95 : decode prog_5_method_2_code 95 = .ok (.lstore_n 3, 1) := by decide +kernel
theorem d_li_of_96 : decode prog_5_method_2_code 96 = .ok (.iinc 5 1, 3) := by decide +kernel
theorem d_li_of_99 : decode prog_5_method_2_code 99 = .ok (.goto (-38), 3) := by decide +kernel
theorem d_li_of_102 : decode prog_5_method_2_code 102 = .ok (.lload_n 3, 1) := by decide +kernel
theorem d_li_of_103 : decode prog_5_method_2_code 103 = .ok (.ldc2_w 25, 3) := by decide +kernel
theorem d_li_of_106 : decode prog_5_method_2_code 106 = .ok (.lxor, 1) := by decide +kernel
theorem d_li_of_107 : decode prog_5_method_2_code 107 = .ok (.lconst 1, 1) := by decide +kernel
theorem d_li_of_108 : decode prog_5_method_2_code 108 = .ok (.aload_n 1, 1) := by decide +kernel
theorem d_li_of_109 : decode prog_5_method_2_code 109 = .ok (.getfield 15, 3) := by decide +kernel
theorem d_li_of_112 : decode prog_5_method_2_code 112 = .ok (.lshl, 1) := by decide +kernel
theorem d_li_of_113 : decode prog_5_method_2_code 113 = .ok (.lconst 1, 1) := by decide +kernel
theorem d_li_of_114 : decode prog_5_method_2_code 114 = .ok (.lsub, 1) := by decide +kernel
theorem d_li_of_115 : decode prog_5_method_2_code 115 = .ok (.land, 1) := by decide +kernel
theorem d_li_of_116 : decode prog_5_method_2_code 116 = .ok (.invokestatic 27, 3) := by decide +kernel
theorem d_li_of_119 : decode prog_5_method_2_code 119 = .ok (.ireturn, 1) := by decide +kernel
theorem d_sh_isLost_0 : decode prog_7_method_2_code 0 = .ok (.aload_n 0, 1) := by decide +kernel
theorem d_sh_isLost_1 : decode prog_7_method_2_code 1 = .ok (.getfield 15, 3) := by decide +kernel
theorem d_sh_isLost_4 : decode prog_7_method_2_code 4 = .ok (.iconst (-1), 1) := by decide +kernel
theorem d_sh_isLost_5 : decode prog_7_method_2_code 5 = .ok (.if_icmp .ne 7, 3) := by decide +kernel
theorem d_sh_isLost_8 : decode prog_7_method_2_code 8 = .ok (.iconst 1, 1) := by decide +kernel
theorem d_sh_isLost_9 : decode prog_7_method_2_code 9 = .ok (.goto 4, 3) := by decide +kernel
theorem d_sh_isLost_12 : decode prog_7_method_2_code 12 = .ok (.iconst 0, 1) := by decide +kernel
theorem d_sh_isLost_13 : decode prog_7_method_2_code 13 = .ok (.ireturn, 1) := by decide +kernel
theorem d_sh_begin_0 : decode prog_7_method_3_code 0 = .ok (.aload_n 0, 1) := by decide +kernel
theorem d_sh_begin_1 : decode prog_7_method_3_code 1 = .ok (.iload_n 1, 1) := by decide +kernel
theorem d_sh_begin_2 : decode prog_7_method_3_code 2 = .ok (.putfield 15, 3) := by decide +kernel
theorem d_sh_begin_5 : decode prog_7_method_3_code 5 = .ok (.aload_n 0, 1) := by decide +kernel
theorem d_sh_begin_6 : decode prog_7_method_3_code 6 = .ok (.iload_n 2, 1) := by decide +kernel
theorem d_sh_begin_7 : decode prog_7_method_3_code 7 = .ok (.putfield 19, 3) := by decide +kernel
theorem d_sh_begin_10 : decode prog_7_method_3_code 10 = .ok (.iconst 0, 1) := by decide +kernel
theorem d_sh_begin_11 : decode prog_7_method_3_code 11 = .ok (.istore_n 3, 1) := by decide +kernel
theorem d_sh_begin_12 : decode prog_7_method_3_code 12 = .ok (.iload_n 3, 1) := by decide +kernel
theorem d_sh_begin_13 : decode prog_7_method_3_code 13 = .ok (.bipush 60, 2) := by decide +kernel
theorem d_sh_begin_15 : decode prog_7_method_3_code 15 = .ok (.if_icmp .ge 16, 3) := by decide +kernel
theorem d_sh_begin_18 : decode prog_7_method_3_code 18 = .ok (.aload_n 0, 1) := by decide +kernel
theorem d_sh_begin_19 : decode prog_7_method_3_code 19 = .ok (.getfield 9, 3) := by decide +kernel
theorem d_sh_begin_22 : decode prog_7_method_3_code 22 = .ok (.iload_n 3, 1) := by decide +kernel
theorem d_sh_begin_23 : decode prog_7_method_3_code 23 = .ok (.iconst 0, 1) := by decide +kernel
theorem d_sh_begin_24 : decode prog_7_method_3_code 24 = .ok (.iastore, 1) := by decide +kernel
theorem d_sh_begin_25 : decode prog_7_method_3_code 25 = .ok (.iinc 3 1, 3) := by decide +kernel
theorem d_sh_begin_28 : decode prog_7_method_3_code 28 = .ok (.goto (-16), 3) := by decide +kernel
theorem d_sh_begin_31 : decode prog_7_method_3_code 31 = .ok (.return_, 1) := by decide +kernel
theorem d_sh_put_0 : decode prog_7_method_4_code 0 = .ok (.aload_n 0, 1) := by decide +kernel
theorem d_sh_put_1 : decode prog_7_method_4_code 1 = .ok (.getfield 9, 3) := by decide +kernel
theorem d_sh_put_4 : decode prog_7_method_4_code 4 = .ok (.iload_n 1, 1) := by decide +kernel
theorem d_sh_put_5 : decode prog_7_method_4_code 5 = .ok (.aload_n 0, 1) := by decide +kernel
theorem d_sh_put_6 : decode prog_7_method_4_code 6 = .ok (.getfield 15, 3) := by decide +kernel
theorem d_sh_put_9 : decode prog_7_method_4_code 9 = .ok (.ifCond .ne 8, 3) := by decide +kernel
theorem d_sh_put_12 : decode prog_7_method_4_code 12 = .ok (.iload_n 2, 1) := by decide +kernel
theorem d_sh_put_13 : decode prog_7_method_4_code 13 = .ok (.i2b, 1) := by decide +kernel
theorem d_sh_put_14 : decode prog_7_method_4_code 14 = .ok (.goto 17, 3) := by decide +kernel
theorem d_sh_put_17 : decode prog_7_method_4_code 17 = .ok (.aload_n 0, 1) := by decide +kernel
theorem d_sh_put_18 : decode prog_7_method_4_code 18 = .ok (.getfield 15, 3) := by decide +kernel
theorem d_sh_put_21 : decode prog_7_method_4_code 21 = .ok (.iconst 1, 1) := by decide +kernel
theorem d_sh_put_22 : decode prog_7_method_4_code 22 = .ok (.if_icmp .ne 8, 3) := by decide +kernel
theorem d_sh_put_25 : decode prog_7_method_4_code 25 = .ok (.iload_n 2, 1) := by decide +kernel
theorem d_sh_put_26 : decode prog_7_method_4_code 26 = .ok (.i2s, 1) := by decide +kernel
theorem d_sh_put_27 : decode prog_7_method_4_code 27 = .ok (.goto 4, 3) := by decide +kernel
theorem d_sh_put_30 : decode prog_7_method_4_code 30 = .ok (.iload_n 2, 1) := by decide +kernel
theorem d_sh_put_31 : decode prog_7_method_4_code 31 = .ok (.iastore, 1) := by decide +kernel
theorem d_sh_put_32 : decode prog_7_method_4_code 32 = .ok (.return_, 1) := by decide +kernel
theorem d_sh_hasSpan_0 : decode prog_7_method_5_code 0 = .ok (.iload_n 1, 1) := by decide +kernel
theorem d_sh_hasSpan_1 : decode prog_7_method_5_code 1 = .ok (.ifCond .lt 29, 3) := by decide +kernel
theorem d_sh_hasSpan_4 : decode prog_7_method_5_code 4 = .ok (.iload_n 2, 1) := by decide +kernel
theorem d_sh_hasSpan_5 : decode prog_7_method_5_code 5 = .ok (.ifCond .lt 25, 3) := by decide +kernel
theorem d_sh_hasSpan_8 : decode prog_7_method_5_code 8 = .ok (.iload_n 1, 1) := by decide +kernel
theorem d_sh_hasSpan_9 : decode prog_7_method_5_code 9 = .ok (.aload_n 0, 1) := by decide +kernel
theorem d_sh_hasSpan_10 : decode prog_7_method_5_code 10 = .ok (.getfield 19, 3) := by decide +kernel
theorem d_sh_hasSpan_13 : decode prog_7_method_5_code 13 = .ok (.if_icmp .gt 17, 3) := by decide +kernel
theorem d_sh_hasSpan_16 : decode prog_7_method_5_code 16 = .ok (.iload_n 2, 1) := by decide +kernel
theorem d_sh_hasSpan_17 : decode prog_7_method_5_code 17 = .ok (.aload_n 0, 1) := by decide +kernel
theorem d_sh_hasSpan_18 : decode prog_7_method_5_code 18 = .ok (.getfield 19, 3) := by decide +kernel
theorem d_sh_hasSpan_21 : decode prog_7_method_5_code 21 = .ok (.iload_n 1, 1) := by decide +kernel
theorem d_sh_hasSpan_22 : decode prog_7_method_5_code 22 = .ok (.isub, 1) := by decide +kernel
theorem d_sh_hasSpan_23 : decode prog_7_method_5_code 23 = .ok (.if_icmp .gt 7, 3) := by decide +kernel
theorem d_sh_hasSpan_26 : decode prog_7_method_5_code 26 = .ok (.iconst 1, 1) := by decide +kernel
theorem d_sh_hasSpan_27 : decode prog_7_method_5_code 27 = .ok (.goto 4, 3) := by decide +kernel
theorem d_sh_hasSpan_30 : decode prog_7_method_5_code 30 = .ok (.iconst 0, 1) := by decide +kernel
theorem d_sh_hasSpan_31 : decode prog_7_method_5_code 31 = .ok (.ireturn, 1) := by decide +kernel
theorem d_bk_readTunes_0 : decode prog_2_method_2_code 0 = .ok (.aload_n 0, 1) := by decide +kernel
theorem d_bk_readTunes_1 : decode prog_2_method_2_code 1 = .ok (.getfield 11, 3) := by decide +kernel
theorem d_bk_readTunes_4 : decode prog_2_method_2_code 4 = .ok (.iconst 0, 1) := by decide +kernel
theorem d_bk_readTunes_5 : decode prog_2_method_2_code 5 = .ok (.aaload, 1) := by decide +kernel
theorem d_bk_readTunes_6 : decode prog_2_method_2_code 6 = .ok (.astore_n 1, 1) := by decide +kernel
theorem d_bk_readTunes_7 : decode prog_2_method_2_code 7 = .ok (.iconst 0, 1) := by decide +kernel
theorem d_bk_readTunes_8 : decode prog_2_method_2_code 8 = .ok (.istore_n 2, 1) := by decide +kernel
theorem d_bk_readTunes_9 : decode prog_2_method_2_code 9 = .ok (.iload_n 2, 1) := by decide +kernel
theorem d_bk_readTunes_10 : decode prog_2_method_2_code 10 = .ok (.bipush 6, 2) := by decide +kernel
theorem d_bk_readTunes_12 : decode prog_2_method_2_code 12 = .ok (.if_icmp .ge 19, 3) := by decide +kernel
theorem d_bk_readTunes_15 : decode prog_2_method_2_code 15 = .ok (.aload_n 0, 1) := by decide +kernel
theorem d_bk_readTunes_16 : decode prog_2_method_2_code 16 = .ok (.getfield 19, 3) := by decide +kernel
theorem d_bk_readTunes_19 : decode prog_2_method_2_code 19 = .ok (.iload_n 2, 1) := by decide +kernel
theorem d_bk_readTunes_20 : decode prog_2_method_2_code 20 = .ok (.aaload, 1) := by decide +kernel
theorem d_bk_readTunes_21 : decode prog_2_method_2_code 21 = .ok (.iconst 0, 1) := by decide +kernel
theorem d_bk_readTunes_22 : decode prog_2_method_2_code 22 = .ok (.putfield 41, 3) := by decide +kernel
theorem d_bk_readTunes_25 : decode prog_2_method_2_code 25 = .ok (.iinc 2 1, 3) := by decide +kernel
theorem d_bk_readTunes_28 : decode prog_2_method_2_code 28 = .ok (.goto (-19), 3) := by decide +kernel
theorem d_bk_readTunes_31 : decode prog_2_method_2_code 31 = .ok (.iconst 0, 1) := by decide +kernel
theorem d_bk_readTunes_32 : decode prog_2_method_2_code 32 = .ok (.istore_n 2, 1) := by decide +kernel
theorem d_bk_readTunes_33 : decode prog_2_method_2_code 33 = .ok (.iconst (-1), 1) := by decide +kernel
theorem d_bk_readTunes_34 : decode prog_2_method_2_code 34 = .ok (.istore_n 3, 1) := by decide +kernel
theorem d_bk_readTunes_35 : decode prog_2_method_2_code 35 = .ok (.iconst 0, 1) := by decide +kernel
theorem d_bk_readTunes_36 : decode prog_2_method_2_code 36 = .ok (.istore 4, 2) := by decide +kernel
theorem d_bk_readTunes_38 : decode prog_2_method_2_code 38 = .ok (.iload 4, 2) := by decide +kernel
theorem d_bk_readTunes_40 : decode prog_2_method_2_code 40 = .ok (.aload_n 1, 1) := by decide +kernel
theorem d_bk_readTunes_41 : decode prog_2_method_2_code 41 = .ok (.getfield 45, 3) := by decide +kernel
theorem d_bk_readTunes_44 : decode prog_2_method_2_code 44 = .ok (.if_icmp .ge 102, 3) := by decide +kernel
theorem d_bk_readTunes_47 : decode prog_2_method_2_code 47 = .ok (.iload_n 3, 1) := by decide +kernel
theorem d_bk_readTunes_48 : decode prog_2_method_2_code 48 = .ok (.iconst (-1), 1) := by decide +kernel
theorem d_bk_readTunes_49 : decode prog_2_method_2_code 49 = .ok (.if_icmp .ne 97, 3) := by decide +kernel
theorem d_bk_readTunes_52 : decode prog_2_method_2_code 52 = .ok (.iload_n 2, 1) := by decide +kernel
theorem d_bk_readTunes_53 : decode prog_2_method_2_code 53 = .ok (.bipush 6, 2) := by decide +kernel
theorem d_bk_readTunes_55 : decode prog_2_method_2_code 55 = .ok (.if_icmp .ge 15, 3) := by decide +kernel
theorem d_bk_readTunes_58 : decode prog_2_method_2_code 58 = .ok (.aload_n 0, 1) := by decide +kernel
theorem d_bk_readTunes_59 : decode prog_2_method_2_code 59 = .ok (.getfield 19, 3) := by decide +kernel
theorem d_bk_readTunes_62 : decode prog_2_method_2_code 62 = .ok (.iload_n 2, 1) := by decide +kernel
theorem d_bk_readTunes_63 : decode prog_2_method_2_code 63 = .ok (.aaload, 1) := by decide +kernel
theorem d_bk_readTunes_64 : decode prog_2_method_2_code 64 = .ok (.getfield 41, 3) := by decide +kernel
theorem d_bk_readTunes_67 : decode prog_2_method_2_code 67 = .ok (.goto 4, 3) := by decide +kernel
theorem d_bk_readTunes_70 : decode prog_2_method_2_code 70 = .ok (.iconst 0, 1) := by decide +kernel
theorem d_bk_readTunes_71 : decode prog_2_method_2_code 71 = .ok (.istore 5, 2) := by decide +kernel
theorem d_bk_readTunes_73 : decode prog_2_method_2_code 73 = .ok (.aload_n 1, 1) := by decide +kernel
theorem d_bk_readTunes_74 : decode prog_2_method_2_code 74 = .ok (.iload 4, 2) := by decide +kernel
theorem d_bk_readTunes_76 : decode prog_2_method_2_code 76 = .ok (.invokevirtual 46, 3) := by decide +kernel
theorem d_bk_readTunes_79 : decode prog_2_method_2_code 79 = .ok (.istore 6, 2) := by decide +kernel
theorem d_bk_readTunes_81 : decode prog_2_method_2_code 81 = .ok (.iload 6, 2) := by decide +kernel
theorem d_bk_readTunes_83 : decode prog_2_method_2_code 83 = .ok (.iconst (-1), 1) := by decide +kernel
theorem d_bk_readTunes_84 : decode prog_2_method_2_code 84 = .ok (.if_icmp .eq 30, 3) := by decide +kernel
theorem d_bk_readTunes_87 : decode prog_2_method_2_code 87 = .ok (.iload_n 2, 1) := by decide +kernel
theorem d_bk_readTunes_88 : decode prog_2_method_2_code 88 = .ok (.bipush 6, 2) := by decide +kernel
theorem d_bk_readTunes_90 : decode prog_2_method_2_code 90 = .ok (.if_icmp .ge 24, 3) := by decide +kernel
theorem d_bk_readTunes_93 : decode prog_2_method_2_code 93 = .ok (.iload 5, 2) := by decide +kernel
theorem d_bk_readTunes_95 : decode prog_2_method_2_code 95 = .ok (.bipush 12, 2) := by decide +kernel
theorem d_bk_readTunes_97 : decode prog_2_method_2_code 97 = .ok (.if_icmp .ge 17, 3) := by decide +kernel
theorem d_bk_readTunes_100 : decode prog_2_method_2_code 100 = .ok (.aload_n 0, 1) := by decide +kernel
theorem d_bk_readTunes_101 : decode prog_2_method_2_code 101 = .ok (.getfield 19, 3) := by decide +kernel
theorem d_bk_readTunes_104 : decode prog_2_method_2_code 104 = .ok (.iload_n 2, 1) := by decide +kernel
theorem d_bk_readTunes_105 : decode prog_2_method_2_code 105 = .ok (.aaload, 1) := by decide +kernel
theorem d_bk_readTunes_106 : decode prog_2_method_2_code 106 = .ok (.iload 6, 2) := by decide +kernel
theorem d_bk_readTunes_108 : decode prog_2_method_2_code 108 = .ok (.invokevirtual 50, 3) := by decide +kernel
theorem d_bk_readTunes_111 : decode prog_2_method_2_code 111 = .ok (.goto 29, 3) := by decide +kernel
theorem d_bk_readTunes_114 : decode prog_2_method_2_code 114 = .ok (.aload_n 1, 1) := by decide +kernel
theorem d_bk_readTunes_115 : decode prog_2_method_2_code 115 = .ok (.getfield 53, 3) := by decide +kernel
theorem d_bk_readTunes_118 : decode prog_2_method_2_code 118 = .ok (.iload 4, 2) := by decide +kernel
theorem d_bk_readTunes_120 : decode prog_2_method_2_code 120 = .ok (.iaload, 1) := by decide +kernel
theorem d_bk_readTunes_121 : decode prog_2_method_2_code 121 = .ok (.bipush 59, 2) := by decide +kernel
theorem d_bk_readTunes_123 : decode prog_2_method_2_code 123 = .ok (.if_icmp .ne 14, 3) := by decide +kernel
theorem d_bk_readTunes_126 : decode prog_2_method_2_code 126 = .ok (.iload 5, 2) := by decide +kernel
theorem d_bk_readTunes_128 : decode prog_2_method_2_code 128 = .ok (.ifCond .le 9, 3) := by decide +kernel
theorem d_bk_readTunes_131 : decode prog_2_method_2_code 131 = .ok (.iinc 2 1, 3) := by decide +kernel
theorem d_bk_readTunes_134 : decode prog_2_method_2_code 134 = .ok (.goto 6, 3) := by decide +kernel
theorem d_bk_readTunes_137 : decode prog_2_method_2_code 137 = .ok (.iload 4, 2) := by decide +kernel
theorem d_bk_readTunes_139 : decode prog_2_method_2_code 139 = .ok (.istore_n 3, 1) := by decide +kernel
theorem d_bk_readTunes_140 : decode prog_2_method_2_code 140 = .ok (.iinc 4 1, 3) := by decide +kernel
theorem d_bk_readTunes_143 : decode prog_2_method_2_code 143 = .ok (.goto (-105), 3) := by decide +kernel
theorem d_bk_readTunes_146 : decode prog_2_method_2_code 146 = .ok (.iload_n 2, 1) := by decide +kernel
theorem d_bk_readTunes_147 : decode prog_2_method_2_code 147 = .ok (.bipush 6, 2) := by decide +kernel
theorem d_bk_readTunes_149 : decode prog_2_method_2_code 149 = .ok (.if_icmp .ge 19, 3) := by decide +kernel
theorem d_bk_readTunes_152 : decode prog_2_method_2_code 152 = .ok (.aload_n 0, 1) := by decide +kernel
theorem d_bk_readTunes_153 : decode prog_2_method_2_code 153 = .ok (.getfield 19, 3) := by decide +kernel
theorem d_bk_readTunes_156 : decode prog_2_method_2_code 156 = .ok (.iload_n 2, 1) := by decide +kernel
theorem d_bk_readTunes_157 : decode prog_2_method_2_code 157 = .ok (.aaload, 1) := by decide +kernel
theorem d_bk_readTunes_158 : decode prog_2_method_2_code 158 = .ok (.getfield 41, 3) := by decide +kernel
theorem d_bk_readTunes_161 : decode prog_2_method_2_code 161 = .ok (.ifCond .le 7, 3) := by decide +kernel
theorem d_bk_readTunes_164 : decode prog_2_method_2_code 164 = .ok (.iconst 1, 1) := by decide +kernel
theorem d_bk_readTunes_165 : decode prog_2_method_2_code 165 = .ok (.goto 4, 3) := by decide +kernel
theorem d_bk_readTunes_168 : decode prog_2_method_2_code 168 = .ok (.iconst 0, 1) := by decide +kernel
theorem d_bk_readTunes_169 : decode prog_2_method_2_code 169 = .ok (.istore 4, 2) := by decide +kernel
theorem d_bk_readTunes_171 : decode prog_2_method_2_code 171 = .ok (.iload_n 3, 1) := by decide +kernel
theorem d_bk_readTunes_172 : decode prog_2_method_2_code 172 = .ok (.iconst (-1), 1) := by decide +kernel
theorem d_bk_readTunes_173 : decode prog_2_method_2_code 173 = .ok (.if_icmp .ne 20, 3) := by decide +kernel
theorem d_bk_readTunes_176 : decode prog_2_method_2_code 176 = .ok (.aload_n 1, 1) := by decide +kernel
theorem d_bk_readTunes_177 : decode prog_2_method_2_code 177 = .ok (.getfield 45, 3) := by decide +kernel
theorem d_bk_readTunes_180 : decode prog_2_method_2_code 180 = .ok (.ifCond .le 13, 3) := by decide +kernel
theorem d_bk_readTunes_183 : decode prog_2_method_2_code 183 = .ok (.iload 4, 2) := by decide +kernel
theorem d_bk_readTunes_185 : decode prog_2_method_2_code 185 = .ok (.ifCond .ne 8, 3) := by decide +kernel
theorem d_bk_readTunes_188 : decode prog_2_method_2_code 188 = .ok (.aload_n 1, 1) := by decide +kernel
theorem d_bk_readTunes_189 : decode prog_2_method_2_code 189 = .ok (.getfield 45, 3) := by decide +kernel
theorem d_bk_readTunes_192 : decode prog_2_method_2_code 192 = .ok (.istore_n 3, 1) := by decide +kernel
theorem d_bk_readTunes_193 : decode prog_2_method_2_code 193 = .ok (.aload_n 1, 1) := by decide +kernel
theorem d_bk_readTunes_194 : decode prog_2_method_2_code 194 = .ok (.iload_n 3, 1) := by decide +kernel
theorem d_bk_readTunes_195 : decode prog_2_method_2_code 195 = .ok (.putfield 57, 3) := by decide +kernel
theorem d_bk_readTunes_198 : decode prog_2_method_2_code 198 = .ok (.aload_n 0, 1) := by decide +kernel
theorem d_bk_readTunes_199 : decode prog_2_method_2_code 199 = .ok (.iload_n 3, 1) := by decide +kernel
theorem d_bk_readTunes_200 : decode prog_2_method_2_code 200 = .ok (.iconst (-1), 1) := by decide +kernel
theorem d_bk_readTunes_201 : decode prog_2_method_2_code 201 = .ok (.if_icmp .ne 14, 3) := by decide +kernel
theorem d_bk_readTunes_204 : decode prog_2_method_2_code 204 = .ok (.iload 4, 2) := by decide +kernel
theorem d_bk_readTunes_206 : decode prog_2_method_2_code 206 = .ok (.ifCond .eq 9, 3) := by decide +kernel
theorem d_bk_readTunes_209 : decode prog_2_method_2_code 209 = .ok (.iload_n 2, 1) := by decide +kernel
theorem d_bk_readTunes_210 : decode prog_2_method_2_code 210 = .ok (.iconst 1, 1) := by decide +kernel
theorem d_bk_readTunes_211 : decode prog_2_method_2_code 211 = .ok (.iadd, 1) := by decide +kernel
theorem d_bk_readTunes_212 : decode prog_2_method_2_code 212 = .ok (.goto 4, 3) := by decide +kernel
theorem d_bk_readTunes_215 : decode prog_2_method_2_code 215 = .ok (.iconst 0, 1) := by decide +kernel
theorem d_bk_readTunes_216 : decode prog_2_method_2_code 216 = .ok (.putfield 60, 3) := by decide +kernel
theorem d_bk_readTunes_219 : decode prog_2_method_2_code 219 = .ok (.return_, 1) := by decide +kernel
theorem d_bk_readBorrowers_0 : decode prog_2_method_3_code 0 = .ok (.aload_n 0, 1) := by decide +kernel
theorem d_bk_readBorrowers_1 : decode prog_2_method_3_code 1 = .ok (.getfield 11, 3) := by decide +kernel
theorem d_bk_readBorrowers_4 : decode prog_2_method_3_code 4 = .ok (.iconst 1, 1) := by decide +kernel
theorem d_bk_readBorrowers_5 : decode prog_2_method_3_code 5 = .ok (.aaload, 1) := by decide +kernel
theorem d_bk_readBorrowers_6 : decode prog_2_method_3_code 6 = .ok (.astore_n 1, 1) := by decide +kernel
theorem d_bk_readBorrowers_7 : decode prog_2_method_3_code 7 = .ok (.iconst (-1), 1) := by decide +kernel
theorem d_bk_readBorrowers_8 : decode prog_2_method_3_code 8 = .ok (.istore_n 2, 1) := by decide +kernel
theorem d_bk_readBorrowers_9 : decode prog_2_method_3_code 9 = .ok (.iconst 0, 1) := by decide +kernel
theorem d_bk_readBorrowers_10 : decode prog_2_method_3_code 10 = .ok (.istore_n 3, 1) := by decide +kernel
theorem d_bk_readBorrowers_11 : decode prog_2_method_3_code 11 = .ok (.iload_n 3, 1) := by decide +kernel
theorem d_bk_readBorrowers_12 : decode prog_2_method_3_code 12 = .ok (.aload_n 1, 1) := by decide +kernel
theorem d_bk_readBorrowers_13 : decode prog_2_method_3_code 13 = .ok (.getfield 45, 3) := by decide +kernel
theorem d_bk_readBorrowers_16 : decode prog_2_method_3_code 16 = .ok (.if_icmp .ge 29, 3) := by decide +kernel
theorem d_bk_readBorrowers_19 : decode prog_2_method_3_code 19 = .ok (.iload_n 2, 1) := by decide +kernel
theorem d_bk_readBorrowers_20 : decode prog_2_method_3_code 20 = .ok (.iconst (-1), 1) := by decide +kernel
theorem d_bk_readBorrowers_21 : decode prog_2_method_3_code 21 = .ok (.if_icmp .ne 24, 3) := by decide +kernel
theorem d_bk_readBorrowers_24 : decode prog_2_method_3_code 24 = .ok (.aload_n 0, 1) := by decide +kernel
theorem d_bk_readBorrowers_25 : decode prog_2_method_3_code 25 = .ok (.aload_n 1, 1) := by decide +kernel
theorem d_bk_readBorrowers_26 : decode prog_2_method_3_code 26 = .ok (.iload_n 3, 1) := by decide +kernel
theorem d_bk_readBorrowers_27 : decode prog_2_method_3_code 27 = .ok (.invokevirtual 63, 3) := by decide +kernel
theorem d_bk_readBorrowers_30 : decode prog_2_method_3_code 30 = .ok (.ifCond .eq 7, 3) := by decide +kernel
theorem d_bk_readBorrowers_33 : decode prog_2_method_3_code 33 = .ok (.iconst (-1), 1) := by decide +kernel
theorem d_bk_readBorrowers_34 : decode prog_2_method_3_code 34 = .ok (.goto 4, 3) := by decide +kernel
theorem d_bk_readBorrowers_37 : decode prog_2_method_3_code 37 = .ok (.iload_n 3, 1) := by decide +kernel
theorem d_bk_readBorrowers_38 : decode prog_2_method_3_code 38 = .ok (.istore_n 2, 1) := by decide +kernel
theorem d_bk_readBorrowers_39 : decode prog_2_method_3_code 39 = .ok (.iinc 3 1, 3) := by decide +kernel
theorem d_bk_readBorrowers_42 : decode prog_2_method_3_code 42 = .ok (.goto (-31), 3) := by decide +kernel
theorem d_bk_readBorrowers_45 : decode prog_2_method_3_code 45 = .ok (.iload_n 2, 1) := by decide +kernel
theorem d_bk_readBorrowers_46 : decode prog_2_method_3_code 46 = .ok (.iconst (-1), 1) := by decide +kernel
theorem d_bk_readBorrowers_47 : decode prog_2_method_3_code 47 = .ok (.if_icmp .ne 25, 3) := by decide +kernel
theorem d_bk_readBorrowers_50 : decode prog_2_method_3_code 50 = .ok (.aload_n 1, 1) := by decide +kernel
theorem d_bk_readBorrowers_51 : decode prog_2_method_3_code 51 = .ok (.getfield 45, 3) := by decide +kernel
theorem d_bk_readBorrowers_54 : decode prog_2_method_3_code 54 = .ok (.ifCond .le 18, 3) := by decide +kernel
theorem d_bk_readBorrowers_57 : decode prog_2_method_3_code 57 = .ok (.aload_n 1, 1) := by decide +kernel
theorem d_bk_readBorrowers_58 : decode prog_2_method_3_code 58 = .ok (.getfield 45, 3) := by decide +kernel
theorem d_bk_readBorrowers_61 : decode prog_2_method_3_code 61 = .ok (.iconst 4, 1) := by decide +kernel
theorem d_bk_readBorrowers_62 : decode prog_2_method_3_code 62 = .ok (.irem, 1) := by decide +kernel
theorem d_bk_readBorrowers_63 : decode prog_2_method_3_code 63 = .ok (.iconst 3, 1) := by decide +kernel
theorem d_bk_readBorrowers_64 : decode prog_2_method_3_code 64 = .ok (.if_icmp .eq 8, 3) := by decide +kernel
theorem d_bk_readBorrowers_67 : decode prog_2_method_3_code 67 = .ok (.aload_n 1, 1) := by decide +kernel
theorem d_bk_readBorrowers_68 : decode prog_2_method_3_code 68 = .ok (.getfield 45, 3) := by decide +kernel
theorem d_bk_readBorrowers_71 : decode prog_2_method_3_code 71 = .ok (.istore_n 2, 1) := by decide +kernel
theorem d_bk_readBorrowers_72 : decode prog_2_method_3_code 72 = .ok (.aload_n 1, 1) := by decide +kernel
theorem d_bk_readBorrowers_73 : decode prog_2_method_3_code 73 = .ok (.iload_n 2, 1) := by decide +kernel
theorem d_bk_readBorrowers_74 : decode prog_2_method_3_code 74 = .ok (.putfield 57, 3) := by decide +kernel
theorem d_bk_readBorrowers_77 : decode prog_2_method_3_code 77 = .ok (.aload_n 0, 1) := by decide +kernel
theorem d_bk_readBorrowers_78 : decode prog_2_method_3_code 78 = .ok (.iload_n 2, 1) := by decide +kernel
theorem d_bk_readBorrowers_79 : decode prog_2_method_3_code 79 = .ok (.iconst (-1), 1) := by decide +kernel
theorem d_bk_readBorrowers_80 : decode prog_2_method_3_code 80 = .ok (.if_icmp .ne 14, 3) := by decide +kernel
theorem d_bk_readBorrowers_83 : decode prog_2_method_3_code 83 = .ok (.aload_n 1, 1) := by decide +kernel
theorem d_bk_readBorrowers_84 : decode prog_2_method_3_code 84 = .ok (.getfield 45, 3) := by decide +kernel
theorem d_bk_readBorrowers_87 : decode prog_2_method_3_code 87 = .ok (.iconst 1, 1) := by decide +kernel
theorem d_bk_readBorrowers_88 : decode prog_2_method_3_code 88 = .ok (.iadd, 1) := by decide +kernel
theorem d_bk_readBorrowers_89 : decode prog_2_method_3_code 89 = .ok (.iconst 4, 1) := by decide +kernel
theorem d_bk_readBorrowers_90 : decode prog_2_method_3_code 90 = .ok (.idiv, 1) := by decide +kernel
theorem d_bk_readBorrowers_91 : decode prog_2_method_3_code 91 = .ok (.goto 4, 3) := by decide +kernel
theorem d_bk_readBorrowers_94 : decode prog_2_method_3_code 94 = .ok (.iconst 0, 1) := by decide +kernel
theorem d_bk_readBorrowers_95 : decode prog_2_method_3_code 95 = .ok (.putfield 67, 3) := by decide +kernel
theorem d_bk_readBorrowers_98 : decode prog_2_method_3_code 98 = .ok (.return_, 1) := by decide +kernel
theorem d_bk_goesOn_0 : decode prog_2_method_4_code 0 = .ok (.iload_n 2, 1) := by decide +kernel
theorem d_bk_goesOn_1 : decode prog_2_method_4_code 1 = .ok (.iconst 4, 1) := by decide +kernel
theorem d_bk_goesOn_2 : decode prog_2_method_4_code 2 = .ok (.idiv, 1) := by decide +kernel
theorem d_bk_goesOn_3 : decode prog_2_method_4_code 3 = .ok (.bipush 6, 2) := by decide +kernel
theorem d_bk_goesOn_5 : decode prog_2_method_4_code 5 = .ok (.if_icmp .lt 5, 3) := by decide +kernel
theorem d_bk_goesOn_8 : decode prog_2_method_4_code 8 = .ok (.iconst 0, 1) := by decide +kernel
theorem d_bk_goesOn_9 : decode prog_2_method_4_code 9 = .ok (.ireturn, 1) := by decide +kernel
theorem d_bk_goesOn_10 : decode prog_2_method_4_code 10 = .ok (.aload_n 0, 1) := by decide +kernel
theorem d_bk_goesOn_11 : decode prog_2_method_4_code 11 = .ok (.getfield 25, 3) := by decide +kernel
theorem d_bk_goesOn_14 : decode prog_2_method_4_code 14 = .ok (.iload_n 2, 1) := by decide +kernel
theorem d_bk_goesOn_15 : decode prog_2_method_4_code 15 = .ok (.iconst 4, 1) := by decide +kernel
theorem d_bk_goesOn_16 : decode prog_2_method_4_code 16 = .ok (.idiv, 1) := by decide +kernel
theorem d_bk_goesOn_17 : decode prog_2_method_4_code 17 = .ok (.aaload, 1) := by decide +kernel
theorem d_bk_goesOn_18 : decode prog_2_method_4_code 18 = .ok (.astore_n 3, 1) := by decide +kernel
theorem d_bk_goesOn_19 : decode prog_2_method_4_code 19 = .ok (.iload_n 2, 1) := by decide +kernel
theorem d_bk_goesOn_20 : decode prog_2_method_4_code 20 = .ok (.iconst 4, 1) := by decide +kernel
theorem d_bk_goesOn_21 : decode prog_2_method_4_code 21 = .ok (.irem, 1) := by decide +kernel
theorem d_bk_goesOn_22 : decode prog_2_method_4_code 22 = .ok (.tableswitch 102 0 2 #[26, 49, 79], 26) := by decide +kernel
theorem d_bk_goesOn_48 : decode prog_2_method_4_code 48 = .ok (.aload_n 3, 1) := by decide +kernel
theorem d_bk_goesOn_49 : decode prog_2_method_4_code 49 = .ok (.aload_n 1, 1) := by decide +kernel
theorem d_bk_goesOn_50 : decode prog_2_method_4_code 50 = .ok (.iload_n 2, 1) := by decide +kernel
theorem d_bk_goesOn_51 : decode prog_2_method_4_code 51 = .ok (.invokevirtual 46, 3) := by decide +kernel
theorem d_bk_goesOn_54 : decode prog_2_method_4_code 54 = .ok (.putfield 70, 3) := by decide +kernel
theorem d_bk_goesOn_57 : decode prog_2_method_4_code 57 = .ok (.aload_n 3, 1) := by decide +kernel
theorem d_bk_goesOn_58 : decode prog_2_method_4_code 58 = .ok (.getfield 70, 3) := by decide +kernel
theorem d_bk_goesOn_61 : decode prog_2_method_4_code 61 = .ok (.iconst (-1), 1) := by decide +kernel
theorem d_bk_goesOn_62 : decode prog_2_method_4_code 62 = .ok (.if_icmp .eq 7, 3) := by decide +kernel
theorem d_bk_goesOn_65 : decode prog_2_method_4_code 65 = .ok (.iconst 1, 1) := by decide +kernel
theorem d_bk_goesOn_66 : decode prog_2_method_4_code 66 = .ok (.goto 4, 3) := by decide +kernel
theorem d_bk_goesOn_69 : decode prog_2_method_4_code 69 = .ok (.iconst 0, 1) := by decide +kernel
theorem d_bk_goesOn_70 : decode prog_2_method_4_code 70 = .ok (.ireturn, 1) := by decide +kernel
theorem d_bk_goesOn_71 : decode prog_2_method_4_code 71 = .ok (.aload_n 3, 1) := by decide +kernel
theorem d_bk_goesOn_72 : decode prog_2_method_4_code 72 = .ok (.ldc 73, 2) := by decide +kernel
theorem d_bk_goesOn_74 : decode prog_2_method_4_code 74 = .ok (.aload_n 1, 1) := by decide +kernel
theorem d_bk_goesOn_75 : decode prog_2_method_4_code 75 = .ok (.getfield 53, 3) := by decide +kernel
theorem d_bk_goesOn_78 : decode prog_2_method_4_code 78 = .ok (.iload_n 2, 1) := by decide +kernel
theorem d_bk_goesOn_79 : decode prog_2_method_4_code 79 = .ok (.iaload, 1) := by decide +kernel
theorem d_bk_goesOn_80 : decode prog_2_method_4_code 80 = .ok (.i2c, 1) := by decide +kernel
theorem d_bk_goesOn_81 : decode prog_2_method_4_code 81 = .ok (.invokevirtual 75, 3) := by decide +kernel
theorem d_bk_goesOn_84 : decode prog_2_method_4_code 84 = .ok (.putfield 80, 3) := by decide +kernel
theorem d_bk_goesOn_87 : decode prog_2_method_4_code 87 = .ok (.aload_n 3, 1) := by decide +kernel
theorem d_bk_goesOn_88 : decode prog_2_method_4_code 88 = .ok (.getfield 80, 3) := by decide +kernel
theorem d_bk_goesOn_91 : decode prog_2_method_4_code 91 = .ok (.iconst (-1), 1) := by decide +kernel
theorem d_bk_goesOn_92 : decode prog_2_method_4_code 92 = .ok (.if_icmp .eq 7, 3) := by decide +kernel
theorem d_bk_goesOn_95 : decode prog_2_method_4_code 95 = .ok (.iconst 1, 1) := by decide +kernel
theorem d_bk_goesOn_96 : decode prog_2_method_4_code 96 = .ok (.goto 4, 3) := by decide +kernel
theorem d_bk_goesOn_99 : decode prog_2_method_4_code 99 = .ok (.iconst 0, 1) := by decide +kernel
theorem d_bk_goesOn_100 : decode prog_2_method_4_code 100 = .ok (.ireturn, 1) := by decide +kernel
theorem d_bk_goesOn_101 : decode prog_2_method_4_code 101 = .ok (.aload_n 3, 1) := by decide +kernel
theorem d_bk_goesOn_102 : decode prog_2_method_4_code 102 = .ok (.aload_n 1, 1) := by decide +kernel
theorem d_bk_goesOn_103 : decode prog_2_method_4_code 103 = .ok (.iload_n 2, 1) := by decide +kernel
theorem d_bk_goesOn_104 : decode prog_2_method_4_code 104 = .ok (.invokevirtual 46, 3) := by decide +kernel
theorem d_bk_goesOn_107 : decode prog_2_method_4_code 107 = .ok (.putfield 83, 3) := by decide +kernel
theorem d_bk_goesOn_110 : decode prog_2_method_4_code 110 = .ok (.aload_n 3, 1) := by decide +kernel
theorem d_bk_goesOn_111 : decode prog_2_method_4_code 111 = .ok (.getfield 83, 3) := by decide +kernel
theorem d_bk_goesOn_114 : decode prog_2_method_4_code 114 = .ok (.iconst (-1), 1) := by decide +kernel
theorem d_bk_goesOn_115 : decode prog_2_method_4_code 115 = .ok (.if_icmp .eq 7, 3) := by decide +kernel
theorem d_bk_goesOn_118 : decode prog_2_method_4_code 118 = .ok (.iconst 1, 1) := by decide +kernel
theorem d_bk_goesOn_119 : decode prog_2_method_4_code 119 = .ok (.goto 4, 3) := by decide +kernel
theorem d_bk_goesOn_122 : decode prog_2_method_4_code 122 = .ok (.iconst 0, 1) := by decide +kernel
theorem d_bk_goesOn_123 : decode prog_2_method_4_code 123 = .ok (.ireturn, 1) := by decide +kernel
theorem d_bk_goesOn_124 : decode prog_2_method_4_code 124 = .ok (.aload_n 1, 1) := by decide +kernel
theorem d_bk_goesOn_125 : decode prog_2_method_4_code 125 = .ok (.getfield 53, 3) := by decide +kernel
theorem d_bk_goesOn_128 : decode prog_2_method_4_code 128 = .ok (.iload_n 2, 1) := by decide +kernel
theorem d_bk_goesOn_129 : decode prog_2_method_4_code 129 = .ok (.iaload, 1) := by decide +kernel
theorem d_bk_goesOn_130 : decode prog_2_method_4_code 130 = .ok (.bipush 59, 2) := by decide +kernel
theorem d_bk_goesOn_132 : decode prog_2_method_4_code 132 = .ok (.if_icmp .ne 7, 3) := by decide +kernel
theorem d_bk_goesOn_135 : decode prog_2_method_4_code 135 = .ok (.iconst 1, 1) := by decide +kernel
theorem d_bk_goesOn_136 : decode prog_2_method_4_code 136 = .ok (.goto 4, 3) := by decide +kernel
theorem d_bk_goesOn_139 : decode prog_2_method_4_code 139 = .ok (.iconst 0, 1) := by decide +kernel
theorem d_bk_goesOn_140 : decode prog_2_method_4_code 140 = .ok (.ireturn, 1) := by decide +kernel
