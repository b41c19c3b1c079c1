theorem d_tl_digestAlone_0 : decode prog_1_method_37_code 0 = .ok (.ldc2_w 298, 3) := by decide +kernel
theorem d_tl_digestAlone_3 : decode prog_1_method_37_code 3 = .ok (.lload_n 1, 1) := by decide +kernel
theorem d_tl_digestAlone_4 : decode prog_1_method_37_code 4 = .ok (.lmul, 1) := by decide +kernel
theorem d_tl_digestAlone_5 : decode prog_1_method_37_code 5 = .ok (.aload_n 0, 1) := by decide +kernel
theorem d_tl_digestAlone_6 : decode prog_1_method_37_code 6 = .ok (.iload_n 3, 1) := by decide +kernel
theorem d_tl_digestAlone_7 : decode prog_1_method_37_code 7 = .ok (.iconst (-1), 1) := by decide +kernel
theorem d_tl_digestAlone_8 : decode prog_1_method_37_code 8 = .ok (.invokevirtual 330, 3) := by decide +kernel
theorem d_tl_digestAlone_11 : decode prog_1_method_37_code 11 = .ok (.i2l, 1) := by decide +kernel
theorem d_tl_digestAlone_12 : decode prog_1_method_37_code 12 = .ok (.ladd, 1) := by decide +kernel
theorem d_tl_digestAlone_13 : decode prog_1_method_37_code 13 = .ok (.lstore 4, 2) := by decide +kernel
theorem d_tl_digestAlone_15 : decode prog_1_method_37_code 15 = .ok (.ldc2_w 298, 3) := by decide +kernel
theorem d_tl_digestAlone_18 : decode prog_1_method_37_code 18 = .ok (.lload 4, 2) := by decide +kernel
theorem d_tl_digestAlone_20 : decode prog_1_method_37_code 20 = .ok (.lmul, 1) := by decide +kernel
theorem d_tl_digestAlone_21 : decode prog_1_method_37_code 21 = .ok (.aload_n 0, 1) := by decide +kernel
theorem d_tl_digestAlone_22 : decode prog_1_method_37_code 22 = .ok (.iconst 5, 1) := by decide +kernel
theorem d_tl_digestAlone_23 : decode prog_1_method_37_code 23 = .ok (.iload_n 3, 1) := by decide +kernel
theorem d_tl_digestAlone_24 : decode prog_1_method_37_code 24 = .ok (.iconst (-1), 1) := by decide +kernel
theorem d_tl_digestAlone_25 : decode prog_1_method_37_code 25 = .ok (.invokevirtual 332, 3) := by decide +kernel
theorem d_tl_digestAlone_28 : decode prog_1_method_37_code 28 = .ok (.i2l, 1) := by decide +kernel
theorem d_tl_digestAlone_29 : decode prog_1_method_37_code 29 = .ok (.ladd, 1) := by decide +kernel
theorem d_tl_digestAlone_30 : decode prog_1_method_37_code 30 = .ok (.lstore 4, 2) := by decide +kernel
theorem d_tl_digestAlone_32 : decode prog_1_method_37_code 32 = .ok (.ldc2_w 298, 3) := by decide +kernel
theorem d_tl_digestAlone_35 : decode prog_1_method_37_code 35 = .ok (.lload 4, 2) := by decide +kernel
theorem d_tl_digestAlone_37 : decode prog_1_method_37_code 37 = .ok (.lmul, 1) := by decide +kernel
theorem d_tl_digestAlone_38 : decode prog_1_method_37_code 38 = .ok (.aload_n 0, 1) := by decide +kernel
theorem d_tl_digestAlone_39 : decode prog_1_method_37_code 39 = .ok (.bipush 39, 2) := by decide +kernel
theorem d_tl_digestAlone_41 : decode prog_1_method_37_code 41 = .ok (.iload_n 3, 1) := by decide +kernel
theorem d_tl_digestAlone_42 : decode prog_1_method_37_code 42 = .ok (.iconst (-1), 1) := by decide +kernel
theorem d_tl_digestAlone_43 : decode prog_1_method_37_code 43 = .ok (.invokevirtual 332, 3) := by decide +kernel
theorem d_tl_digestAlone_46 : decode prog_1_method_37_code 46 = .ok (.i2l, 1) := by decide +kernel
theorem d_tl_digestAlone_47 : decode prog_1_method_37_code 47 = .ok (.ladd, 1) := by decide +kernel
theorem d_tl_digestAlone_48 : decode prog_1_method_37_code 48 = .ok (.lstore 4, 2) := by decide +kernel
theorem d_tl_digestAlone_50 : decode prog_1_method_37_code 50 = .ok (.ldc2_w 298, 3) := by decide +kernel
theorem d_tl_digestAlone_53 : decode prog_1_method_37_code 53 = .ok (.lload 4, 2) := by decide +kernel
theorem d_tl_digestAlone_55 : decode prog_1_method_37_code 55 = .ok (.lmul, 1) := by decide +kernel
theorem d_tl_digestAlone_56 : decode prog_1_method_37_code 56 = .ok (.aload_n 0, 1) := by decide +kernel
theorem d_tl_digestAlone_57 : decode prog_1_method_37_code 57 = .ok (.iconst 5, 1) := by decide +kernel
theorem d_tl_digestAlone_58 : decode prog_1_method_37_code 58 = .ok (.iload_n 3, 1) := by decide +kernel
theorem d_tl_digestAlone_59 : decode prog_1_method_37_code 59 = .ok (.iconst 2, 1) := by decide +kernel
theorem d_tl_digestAlone_60 : decode prog_1_method_37_code 60 = .ok (.invokevirtual 332, 3) := by decide +kernel
theorem d_tl_digestAlone_63 : decode prog_1_method_37_code 63 = .ok (.i2l, 1) := by decide +kernel
theorem d_tl_digestAlone_64 : decode prog_1_method_37_code 64 = .ok (.ladd, 1) := by decide +kernel
theorem d_tl_digestAlone_65 : decode prog_1_method_37_code 65 = .ok (.lstore 4, 2) := by decide +kernel
theorem d_tl_digestAlone_67 : decode prog_1_method_37_code 67 = .ok (.ldc2_w 298, 3) := by decide +kernel
theorem d_tl_digestAlone_70 : decode prog_1_method_37_code 70 = .ok (.lload 4, 2) := by decide +kernel
theorem d_tl_digestAlone_72 : decode prog_1_method_37_code 72 = .ok (.lmul, 1) := by decide +kernel
theorem d_tl_digestAlone_73 : decode prog_1_method_37_code 73 = .ok (.aload_n 0, 1) := by decide +kernel
theorem d_tl_digestAlone_74 : decode prog_1_method_37_code 74 = .ok (.iconst 5, 1) := by decide +kernel
theorem d_tl_digestAlone_75 : decode prog_1_method_37_code 75 = .ok (.iload_n 3, 1) := by decide +kernel
theorem d_tl_digestAlone_76 : decode prog_1_method_37_code 76 = .ok (.invokevirtual 335, 3) := by decide +kernel
theorem d_tl_digestAlone_79 : decode prog_1_method_37_code 79 = .ok (.i2l, 1) := by decide +kernel
theorem d_tl_digestAlone_80 : decode prog_1_method_37_code 80 = .ok (.ladd, 1) := by decide +kernel
theorem d_tl_digestAlone_81 : decode prog_1_method_37_code 81 = .ok (.lstore 4, 2) := by decide +kernel
theorem d_tl_digestAlone_83 : decode prog_1_method_37_code 83 = .ok (.ldc2_w 298, 3) := by decide +kernel
theorem d_tl_digestAlone_86 : decode prog_1_method_37_code 86 = .ok (.lload 4, 2) := by decide +kernel
theorem d_tl_digestAlone_88 : decode prog_1_method_37_code 88 = .ok (.lmul, 1) := by decide +kernel
theorem d_tl_digestAlone_89 : decode prog_1_method_37_code 89 = .ok (.aload_n 0, 1) := by decide +kernel
theorem d_tl_digestAlone_90 : decode prog_1_method_37_code 90 = .ok (.iload_n 3, 1) := by decide +kernel
theorem d_tl_digestAlone_91 : decode prog_1_method_37_code 91 = .ok (.bipush 9, 2) := by decide +kernel
theorem d_tl_digestAlone_93 : decode prog_1_method_37_code 93 = .ok (.iconst (-1), 1) := by decide +kernel
theorem d_tl_digestAlone_94 : decode prog_1_method_37_code 94 = .ok (.invokevirtual 338, 3) := by decide +kernel
theorem d_tl_digestAlone_97 : decode prog_1_method_37_code 97 = .ok (.i2l, 1) := by decide +kernel
theorem d_tl_digestAlone_98 : decode prog_1_method_37_code 98 = .ok (.ladd, 1) := by decide +kernel
theorem d_tl_digestAlone_99 : decode prog_1_method_37_code 99 = .ok (.lstore 4, 2) := by decide +kernel
theorem d_tl_digestAlone_101 : decode prog_1_method_37_code 101 = .ok (.ldc2_w 298, 3) := by decide +kernel
theorem d_tl_digestAlone_104 : decode prog_1_method_37_code 104 = .ok (.lload 4, 2) := by decide +kernel
theorem d_tl_digestAlone_106 : decode prog_1_method_37_code 106 = .ok (.lmul, 1) := by decide +kernel
theorem d_tl_digestAlone_107 : decode prog_1_method_37_code 107 = .ok (.aload_n 0, 1) := by decide +kernel
theorem d_tl_digestAlone_108 : decode prog_1_method_37_code 108 = .ok (.iload_n 3, 1) := by decide +kernel
theorem d_tl_digestAlone_109 : decode prog_1_method_37_code 109 = .ok (.bipush 9, 2) := by decide +kernel
theorem d_tl_digestAlone_111 : decode prog_1_method_37_code 111 = .ok (.iconst 0, 1) := by decide +kernel
theorem d_tl_digestAlone_112 : decode prog_1_method_37_code 112 = .ok (.invokevirtual 338, 3) := by decide +kernel
theorem d_tl_digestAlone_115 : decode prog_1_method_37_code 115 = .ok (.i2l, 1) := by decide +kernel
theorem d_tl_digestAlone_116 : decode prog_1_method_37_code 116 = .ok (.ladd, 1) := by decide +kernel
theorem d_tl_digestAlone_117 : decode prog_1_method_37_code 117 = .ok (.lstore 4, 2) := by decide +kernel
theorem d_tl_digestAlone_119 : decode prog_1_method_37_code 119 = .ok (.ldc2_w 298, 3) := by decide +kernel
theorem d_tl_digestAlone_122 : decode prog_1_method_37_code 122 = .ok (.lload 4, 2) := by decide +kernel
theorem d_tl_digestAlone_124 : decode prog_1_method_37_code 124 = .ok (.lmul, 1) := by decide +kernel
theorem d_tl_digestAlone_125 : decode prog_1_method_37_code 125 = .ok (.aload_n 0, 1) := by decide +kernel
theorem d_tl_digestAlone_126 : decode prog_1_method_37_code 126 = .ok (.iload_n 3, 1) := by decide +kernel
theorem d_tl_digestAlone_127 : decode prog_1_method_37_code 127 = .ok (.iconst 3, 1) := by decide +kernel
theorem d_tl_digestAlone_128 : decode prog_1_method_37_code 128 = .ok (.iconst (-1), 1) := by decide +kernel
theorem d_tl_digestAlone_129 : decode prog_1_method_37_code 129 = .ok (.invokevirtual 341, 3) := by decide +kernel
theorem d_tl_digestAlone_132 : decode prog_1_method_37_code 132 = .ok (.i2l, 1) := by decide +kernel
theorem d_tl_digestAlone_133 : decode prog_1_method_37_code 133 = .ok (.ladd, 1) := by decide +kernel
theorem d_tl_digestAlone_134 : decode prog_1_method_37_code 134 = .ok (.lstore 4, 2) := by decide +kernel
theorem d_tl_digestAlone_136 : decode prog_1_method_37_code 136 = .ok (.ldc2_w 298, 3) := by decide +kernel
theorem d_tl_digestAlone_139 : decode prog_1_method_37_code 139 = .ok (.lload 4, 2) := by decide +kernel
theorem d_tl_digestAlone_141 : decode prog_1_method_37_code 141 = .ok (.lmul, 1) := by decide +kernel
theorem d_tl_digestAlone_142 : decode prog_1_method_37_code 142 = .ok (.aload_n 0, 1) := by decide +kernel
theorem d_tl_digestAlone_143 : decode prog_1_method_37_code 143 = .ok (.iload_n 3, 1) := by decide +kernel
theorem d_tl_digestAlone_144 : decode prog_1_method_37_code 144 = .ok (.iconst 3, 1) := by decide +kernel
theorem d_tl_digestAlone_145 : decode prog_1_method_37_code 145 = .ok (.iconst 0, 1) := by decide +kernel
theorem d_tl_digestAlone_146 : decode prog_1_method_37_code 146 = .ok (.invokevirtual 341, 3) := by decide +kernel
theorem d_tl_digestAlone_149 : decode prog_1_method_37_code 149 = .ok (.i2l, 1) := by decide +kernel
theorem d_tl_digestAlone_150 : decode prog_1_method_37_code 150 = .ok (.ladd, 1) := by decide +kernel
theorem d_tl_digestAlone_151 : decode prog_1_method_37_code 151 = .ok (.lreturn, 1) := by decide +kernel
theorem d_tl_digestTogether_0 : decode prog_1_method_38_code 0 = .ok (.ldc2_w 298, 3) := by decide +kernel
theorem d_tl_digestTogether_3 : decode prog_1_method_38_code 3 = .ok (.lload_n 1, 1) := by decide +kernel
theorem d_tl_digestTogether_4 : decode prog_1_method_38_code 4 = .ok (.lmul, 1) := by decide +kernel
theorem d_tl_digestTogether_5 : decode prog_1_method_38_code 5 = .ok (.aload_n 0, 1) := by decide +kernel
theorem d_tl_digestTogether_6 : decode prog_1_method_38_code 6 = .ok (.iconst 0, 1) := by decide +kernel
theorem d_tl_digestTogether_7 : decode prog_1_method_38_code 7 = .ok (.iload_n 3, 1) := by decide +kernel
theorem d_tl_digestTogether_8 : decode prog_1_method_38_code 8 = .ok (.iconst 0, 1) := by decide +kernel
theorem d_tl_digestTogether_9 : decode prog_1_method_38_code 9 = .ok (.invokevirtual 344, 3) := by decide +kernel
theorem d_tl_digestTogether_12 : decode prog_1_method_38_code 12 = .ok (.i2l, 1) := by decide +kernel
theorem d_tl_digestTogether_13 : decode prog_1_method_38_code 13 = .ok (.ladd, 1) := by decide +kernel
theorem d_tl_digestTogether_14 : decode prog_1_method_38_code 14 = .ok (.lstore 4, 2) := by decide +kernel
theorem d_tl_digestTogether_16 : decode prog_1_method_38_code 16 = .ok (.ldc2_w 298, 3) := by decide +kernel
theorem d_tl_digestTogether_19 : decode prog_1_method_38_code 19 = .ok (.lload 4, 2) := by decide +kernel
theorem d_tl_digestTogether_21 : decode prog_1_method_38_code 21 = .ok (.lmul, 1) := by decide +kernel
theorem d_tl_digestTogether_22 : decode prog_1_method_38_code 22 = .ok (.aload_n 0, 1) := by decide +kernel
theorem d_tl_digestTogether_23 : decode prog_1_method_38_code 23 = .ok (.iconst 0, 1) := by decide +kernel
theorem d_tl_digestTogether_24 : decode prog_1_method_38_code 24 = .ok (.iload_n 3, 1) := by decide +kernel
theorem d_tl_digestTogether_25 : decode prog_1_method_38_code 25 = .ok (.iconst 1, 1) := by decide +kernel
theorem d_tl_digestTogether_26 : decode prog_1_method_38_code 26 = .ok (.invokevirtual 344, 3) := by decide +kernel
theorem d_tl_digestTogether_29 : decode prog_1_method_38_code 29 = .ok (.i2l, 1) := by decide +kernel
theorem d_tl_digestTogether_30 : decode prog_1_method_38_code 30 = .ok (.ladd, 1) := by decide +kernel
theorem d_tl_digestTogether_31 : decode prog_1_method_38_code 31 = .ok (.lstore 4, 2) := by decide +kernel
theorem d_tl_digestTogether_33 : decode prog_1_method_38_code 33 = .ok (.ldc2_w 298, 3) := by decide +kernel
theorem d_tl_digestTogether_36 : decode prog_1_method_38_code 36 = .ok (.lload 4, 2) := by decide +kernel
theorem d_tl_digestTogether_38 : decode prog_1_method_38_code 38 = .ok (.lmul, 1) := by decide +kernel
theorem d_tl_digestTogether_39 : decode prog_1_method_38_code 39 = .ok (.aload_n 0, 1) := by decide +kernel
theorem d_tl_digestTogether_40 : decode prog_1_method_38_code 40 = .ok (.iconst 0, 1) := by decide +kernel
theorem d_tl_digestTogether_41 : decode prog_1_method_38_code 41 = .ok (.iload_n 3, 1) := by decide +kernel
theorem d_tl_digestTogether_42 : decode prog_1_method_38_code 42 = .ok (.invokevirtual 228, 3) := by decide +kernel
theorem d_tl_digestTogether_45 : decode prog_1_method_38_code 45 = .ok (.i2l, 1) := by decide +kernel
theorem d_tl_digestTogether_46 : decode prog_1_method_38_code 46 = .ok (.ladd, 1) := by decide +kernel
theorem d_tl_digestTogether_47 : decode prog_1_method_38_code 47 = .ok (.lstore 4, 2) := by decide +kernel
theorem d_tl_digestTogether_49 : decode prog_1_method_38_code 49 = .ok (.ldc2_w 298, 3) := by decide +kernel
theorem d_tl_digestTogether_52 : decode prog_1_method_38_code 52 = .ok (.lload 4, 2) := by decide +kernel
theorem d_tl_digestTogether_54 : decode prog_1_method_38_code 54 = .ok (.lmul, 1) := by decide +kernel
theorem d_tl_digestTogether_55 : decode prog_1_method_38_code 55 = .ok (.aload_n 0, 1) := by decide +kernel
theorem d_tl_digestTogether_56 : decode prog_1_method_38_code 56 = .ok (.iload_n 3, 1) := by decide +kernel
theorem d_tl_digestTogether_57 : decode prog_1_method_38_code 57 = .ok (.invokevirtual 347, 3) := by decide +kernel
theorem d_tl_digestTogether_60 : decode prog_1_method_38_code 60 = .ok (.i2l, 1) := by decide +kernel
theorem d_tl_digestTogether_61 : decode prog_1_method_38_code 61 = .ok (.ladd, 1) := by decide +kernel
theorem d_tl_digestTogether_62 : decode prog_1_method_38_code 62 = .ok (.lstore 4, 2) := by decide +kernel
theorem d_tl_digestTogether_64 : decode prog_1_method_38_code 64 = .ok (.ldc2_w 298, 3) := by decide +kernel
theorem d_tl_digestTogether_67 : decode prog_1_method_38_code 67 = .ok (.lload 4, 2) := by decide +kernel
theorem d_tl_digestTogether_69 : decode prog_1_method_38_code 69 = .ok (.lmul, 1) := by decide +kernel
theorem d_tl_digestTogether_70 : decode prog_1_method_38_code 70 = .ok (.aload_n 0, 1) := by decide +kernel
theorem d_tl_digestTogether_71 : decode prog_1_method_38_code 71 = .ok (.iload_n 3, 1) := by decide +kernel
theorem d_tl_digestTogether_72 : decode prog_1_method_38_code 72 = .ok (.invokevirtual 350, 3) := by decide +kernel
theorem d_tl_digestTogether_75 : decode prog_1_method_38_code 75 = .ok (.i2l, 1) := by decide +kernel
theorem d_tl_digestTogether_76 : decode prog_1_method_38_code 76 = .ok (.ladd, 1) := by decide +kernel
theorem d_tl_digestTogether_77 : decode prog_1_method_38_code 77 = .ok (.lstore 4, 2) := by decide +kernel
theorem d_tl_digestTogether_79 : decode prog_1_method_38_code 79 = .ok (.ldc2_w 298, 3) := by decide +kernel
theorem d_tl_digestTogether_82 : decode prog_1_method_38_code 82 = .ok (.lload 4, 2) := by decide +kernel
theorem d_tl_digestTogether_84 : decode prog_1_method_38_code 84 = .ok (.lmul, 1) := by decide +kernel
theorem d_tl_digestTogether_85 : decode prog_1_method_38_code 85 = .ok (.aload_n 0, 1) := by decide +kernel
theorem d_tl_digestTogether_86 : decode prog_1_method_38_code 86 = .ok (.iload_n 3, 1) := by decide +kernel
theorem d_tl_digestTogether_87 : decode prog_1_method_38_code 87 = .ok (.iconst 0, 1) := by decide +kernel
theorem d_tl_digestTogether_88 : decode prog_1_method_38_code 88 = .ok (.invokevirtual 353, 3) := by decide +kernel
theorem d_tl_digestTogether_91 : decode prog_1_method_38_code 91 = .ok (.i2l, 1) := by decide +kernel
theorem d_tl_digestTogether_92 : decode prog_1_method_38_code 92 = .ok (.ladd, 1) := by decide +kernel
theorem d_tl_digestTogether_93 : decode prog_1_method_38_code 93 = .ok (.lstore 4, 2) := by decide +kernel
theorem d_tl_digestTogether_95 : decode prog_1_method_38_code 95 = .ok (.ldc2_w 298, 3) := by decide +kernel
theorem d_tl_digestTogether_98 : decode prog_1_method_38_code 98 = .ok (.lload 4, 2) := by decide +kernel
theorem d_tl_digestTogether_100 : decode prog_1_method_38_code 100 = .ok (.lmul, 1) := by decide +kernel
theorem d_tl_digestTogether_101 : decode prog_1_method_38_code 101 = .ok (.aload_n 0, 1) := by decide +kernel
theorem d_tl_digestTogether_102 : decode prog_1_method_38_code 102 = .ok (.iload_n 3, 1) := by decide +kernel
theorem d_tl_digestTogether_103 : decode prog_1_method_38_code 103 = .ok (.iconst 1, 1) := by decide +kernel
theorem d_tl_digestTogether_104 : decode prog_1_method_38_code 104 = .ok (.invokevirtual 353, 3) := by decide +kernel
theorem d_tl_digestTogether_107 : decode prog_1_method_38_code 107 = .ok (.i2l, 1) := by decide +kernel
theorem d_tl_digestTogether_108 : decode prog_1_method_38_code 108 = .ok (.ladd, 1) := by decide +kernel
theorem d_tl_digestTogether_109 : decode prog_1_method_38_code 109 = .ok (.lstore 4, 2) := by decide +kernel
theorem d_tl_digestTogether_111 : decode prog_1_method_38_code 111 = .ok (.ldc2_w 298, 3) := by decide +kernel
theorem d_tl_digestTogether_114 : decode prog_1_method_38_code 114 = .ok (.lload 4, 2) := by decide +kernel
theorem d_tl_digestTogether_116 : decode prog_1_method_38_code 116 = .ok (.lmul, 1) := by decide +kernel
theorem d_tl_digestTogether_117 : decode prog_1_method_38_code 117 = .ok (.aload_n 0, 1) := by decide +kernel
theorem d_tl_digestTogether_118 : decode prog_1_method_38_code 118 = .ok (.bipush 7, 2) := by decide +kernel
theorem d_tl_digestTogether_120 : decode prog_1_method_38_code 120 = .ok (.bipush 9, 2) := by decide +kernel
theorem d_tl_digestTogether_122 : decode prog_1_method_38_code 122 = .ok (.iload_n 3, 1) := by decide +kernel
theorem d_tl_digestTogether_123 : decode prog_1_method_38_code 123 = .ok (.invokevirtual 356, 3) := by decide +kernel
theorem d_tl_digestTogether_126 : decode prog_1_method_38_code 126 = .ok (.i2l, 1) := by decide +kernel
theorem d_tl_digestTogether_127 : decode prog_1_method_38_code 127 = .ok (.ladd, 1) := by decide +kernel
theorem d_tl_digestTogether_128 : decode prog_1_method_38_code 128 = .ok (.lstore 4, 2) := by decide +kernel
theorem d_tl_digestTogether_130 : decode prog_1_method_38_code 130 = .ok (.ldc2_w 298, 3) := by decide +kernel
theorem d_tl_digestTogether_133 : decode prog_1_method_38_code 133 = .ok (.lload 4, 2) := by decide +kernel
theorem d_tl_digestTogether_135 : decode prog_1_method_38_code 135 = .ok (.lmul, 1) := by decide +kernel
theorem d_tl_digestTogether_136 : decode prog_1_method_38_code 136 = .ok (.aload_n 0, 1) := by decide +kernel
theorem d_tl_digestTogether_137 : decode prog_1_method_38_code 137 = .ok (.iconst 5, 1) := by decide +kernel
theorem d_tl_digestTogether_138 : decode prog_1_method_38_code 138 = .ok (.iload_n 3, 1) := by decide +kernel
theorem d_tl_digestTogether_139 : decode prog_1_method_38_code 139 = .ok (.iconst 0, 1) := by decide +kernel
theorem d_tl_digestTogether_140 : decode prog_1_method_38_code 140 = .ok (.iconst 4, 1) := by decide +kernel
theorem d_tl_digestTogether_141 : decode prog_1_method_38_code 141 = .ok (.bipush 9, 2) := by decide +kernel
theorem d_tl_digestTogether_143 : decode prog_1_method_38_code 143 = .ok (.iconst 0, 1) := by decide +kernel
theorem d_tl_digestTogether_144 : decode prog_1_method_38_code 144 = .ok (.invokevirtual 359, 3) := by decide +kernel
theorem d_tl_digestTogether_147 : decode prog_1_method_38_code 147 = .ok (.ladd, 1) := by decide +kernel
theorem d_tl_digestTogether_148 : decode prog_1_method_38_code 148 = .ok (.lstore 4, 2) := by decide +kernel
theorem d_tl_digestTogether_150 : decode prog_1_method_38_code 150 = .ok (.ldc2_w 298, 3) := by decide +kernel
theorem d_tl_digestTogether_153 : decode prog_1_method_38_code 153 = .ok (.lload 4, 2) := by decide +kernel
theorem d_tl_digestTogether_155 : decode prog_1_method_38_code 155 = .ok (.lmul, 1) := by decide +kernel
theorem d_tl_digestTogether_156 : decode prog_1_method_38_code 156 = .ok (.aload_n 0, 1) := by decide +kernel
theorem d_tl_digestTogether_157 : decode prog_1_method_38_code 157 = .ok (.iconst 5, 1) := by decide +kernel
theorem d_tl_digestTogether_158 : decode prog_1_method_38_code 158 = .ok (.iload_n 3, 1) := by decide +kernel
theorem d_tl_digestTogether_159 : decode prog_1_method_38_code 159 = .ok (.iconst 0, 1) := by decide +kernel
theorem d_tl_digestTogether_160 : decode prog_1_method_38_code 160 = .ok (.iconst 4, 1) := by decide +kernel
theorem d_tl_digestTogether_161 : decode prog_1_method_38_code 161 = .ok (.bipush 9, 2) := by decide +kernel
theorem d_tl_digestTogether_163 : decode prog_1_method_38_code 163 = .ok (.iconst 1, 1) := by decide +kernel
theorem d_tl_digestTogether_164 : decode prog_1_method_38_code 164 = .ok (.invokevirtual 359, 3) := by decide +kernel
theorem d_tl_digestTogether_167 : decode prog_1_method_38_code 167 = .ok (.ladd, 1) := by decide +kernel
theorem d_tl_digestTogether_168 : decode prog_1_method_38_code 168 = .ok (.lreturn, 1) := by decide +kernel
theorem d_tl_within_0 : decode prog_1_method_39_code 0 = .ok (.iload_n 0, 1) := by decide +kernel
theorem d_tl_within_1 : decode prog_1_method_39_code 1 = .ok (.iload_n 1, 1) := by decide +kernel
theorem d_tl_within_2 : decode prog_1_method_39_code 2 = .ok (.if_icmp .lt 12, 3) := by decide +kernel
theorem d_tl_within_5 : decode prog_1_method_39_code 5 = .ok (.iload_n 0, 1) := by decide +kernel
theorem d_tl_within_6 : decode prog_1_method_39_code 6 = .ok (.iload_n 2, 1) := by decide +kernel
theorem d_tl_within_7 : decode prog_1_method_39_code 7 = .ok (.if_icmp .gt 7, 3) := by decide +kernel
theorem d_tl_within_10 : decode prog_1_method_39_code 10 = .ok (.iconst 1, 1) := by decide +kernel
theorem d_tl_within_11 : decode prog_1_method_39_code 11 = .ok (.goto 4, 3) := by decide +kernel
theorem d_tl_within_14 : decode prog_1_method_39_code 14 = .ok (.iconst 0, 1) := by decide +kernel
theorem d_tl_within_15 : decode prog_1_method_39_code 15 = .ok (.ireturn, 1) := by decide +kernel
theorem d_tl_isText_0 : decode prog_1_method_40_code 0 = .ok (.iload_n 0, 1) := by decide +kernel
theorem d_tl_isText_1 : decode prog_1_method_40_code 1 = .ok (.iconst 0, 1) := by decide +kernel
theorem d_tl_isText_2 : decode prog_1_method_40_code 2 = .ok (.iconst 1, 1) := by decide +kernel
theorem d_tl_isText_3 : decode prog_1_method_40_code 3 = .ok (.invokestatic 59, 3) := by decide +kernel
theorem d_tl_isText_6 : decode prog_1_method_40_code 6 = .ok (.ireturn, 1) := by decide +kernel
theorem d_tl_isYear_0 : decode prog_1_method_41_code 0 = .ok (.iload_n 0, 1) := by decide +kernel
theorem d_tl_isYear_1 : decode prog_1_method_41_code 1 = .ok (.iconst 0, 1) := by decide +kernel
theorem d_tl_isYear_2 : decode prog_1_method_41_code 2 = .ok (.bipush 39, 2) := by decide +kernel
theorem d_tl_isYear_4 : decode prog_1_method_41_code 4 = .ok (.invokestatic 59, 3) := by decide +kernel
theorem d_tl_isYear_7 : decode prog_1_method_41_code 7 = .ok (.ireturn, 1) := by decide +kernel
theorem d_tl_isEar_0 : decode prog_1_method_42_code 0 = .ok (.iload_n 0, 1) := by decide +kernel
theorem d_tl_isEar_1 : decode prog_1_method_42_code 1 = .ok (.iconst 0, 1) := by decide +kernel
theorem d_tl_isEar_2 : decode prog_1_method_42_code 2 = .ok (.bipush 12, 2) := by decide +kernel
theorem d_tl_isEar_4 : decode prog_1_method_42_code 4 = .ok (.invokestatic 59, 3) := by decide +kernel
theorem d_tl_isEar_7 : decode prog_1_method_42_code 7 = .ok (.ireturn, 1) := by decide +kernel
theorem d_tl_isSheet_0 : decode prog_1_method_43_code 0 = .ok (.iload_n 0, 1) := by decide +kernel
theorem d_tl_isSheet_1 : decode prog_1_method_43_code 1 = .ok (.iconst 0, 1) := by decide +kernel
theorem d_tl_isSheet_2 : decode prog_1_method_43_code 2 = .ok (.iconst 3, 1) := by decide +kernel
theorem d_tl_isSheet_3 : decode prog_1_method_43_code 3 = .ok (.invokestatic 59, 3) := by decide +kernel
theorem d_tl_isSheet_6 : decode prog_1_method_43_code 6 = .ok (.ireturn, 1) := by decide +kernel
theorem d_tl_isForm_0 : decode prog_1_method_44_code 0 = .ok (.iload_n 0, 1) := by decide +kernel
theorem d_tl_isForm_1 : decode prog_1_method_44_code 1 = .ok (.iconst 0, 1) := by decide +kernel
theorem d_tl_isForm_2 : decode prog_1_method_44_code 2 = .ok (.iconst 2, 1) := by decide +kernel
theorem d_tl_isForm_3 : decode prog_1_method_44_code 3 = .ok (.invokestatic 59, 3) := by decide +kernel
theorem d_tl_isForm_6 : decode prog_1_method_44_code 6 = .ok (.ireturn, 1) := by decide +kernel
theorem d_tl_isTune_0 : decode prog_1_method_45_code 0 = .ok (.iload_n 1, 1) := by decide +kernel
theorem d_tl_isTune_1 : decode prog_1_method_45_code 1 = .ok (.iconst 0, 1) := by decide +kernel
theorem d_tl_isTune_2 : decode prog_1_method_45_code 2 = .ok (.aload_n 0, 1) := by decide +kernel
theorem d_tl_isTune_3 : decode prog_1_method_45_code 3 = .ok (.getfield 10, 3) := by decide +kernel
theorem d_tl_isTune_6 : decode prog_1_method_45_code 6 = .ok (.getfield 225, 3) := by decide +kernel
theorem d_tl_isTune_9 : decode prog_1_method_45_code 9 = .ok (.iconst 1, 1) := by decide +kernel
theorem d_tl_isTune_10 : decode prog_1_method_45_code 10 = .ok (.isub, 1) := by decide +kernel
theorem d_tl_isTune_11 : decode prog_1_method_45_code 11 = .ok (.invokestatic 59, 3) := by decide +kernel
theorem d_tl_isTune_14 : decode prog_1_method_45_code 14 = .ok (.ireturn, 1) := by decide +kernel
theorem d_tl_isBorrower_0 : decode prog_1_method_46_code 0 = .ok (.iload_n 1, 1) := by decide +kernel
theorem d_tl_isBorrower_1 : decode prog_1_method_46_code 1 = .ok (.iconst 0, 1) := by decide +kernel
theorem d_tl_isBorrower_2 : decode prog_1_method_46_code 2 = .ok (.aload_n 0, 1) := by decide +kernel
theorem d_tl_isBorrower_3 : decode prog_1_method_46_code 3 = .ok (.getfield 10, 3) := by decide +kernel
theorem d_tl_isBorrower_6 : decode prog_1_method_46_code 6 = .ok (.getfield 284, 3) := by decide +kernel
theorem d_tl_isBorrower_9 : decode prog_1_method_46_code 9 = .ok (.iconst 1, 1) := by decide +kernel
theorem d_tl_isBorrower_10 : decode prog_1_method_46_code 10 = .ok (.isub, 1) := by decide +kernel
theorem d_tl_isBorrower_11 : decode prog_1_method_46_code 11 = .ok (.invokestatic 59, 3) := by decide +kernel
theorem d_tl_isBorrower_14 : decode prog_1_method_46_code 14 = .ok (.ireturn, 1) := by decide +kernel
theorem d_tl_found_0 : decode prog_1_method_47_code 0 = .ok (.aload_n 0, 1) := by decide +kernel
theorem d_tl_found_1 : decode prog_1_method_47_code 1 = .ok (.iload_n 1, 1) := by decide +kernel
theorem d_tl_found_2 : decode prog_1_method_47_code 2 = .ok (.putfield 293, 3) := by decide +kernel
theorem d_tl_found_5 : decode prog_1_method_47_code 5 = .ok (.bipush (-10), 2) := by decide +kernel
theorem d_tl_found_7 : decode prog_1_method_47_code 7 = .ok (.iload_n 1, 1) := by decide +kernel
theorem d_tl_found_8 : decode prog_1_method_47_code 8 = .ok (.isub, 1) := by decide +kernel
theorem d_tl_found_9 : decode prog_1_method_47_code 9 = .ok (.ireturn, 1) := by decide +kernel
theorem d_tl_resized_0 : decode prog_1_method_48_code 0 = .ok (.aload_n 0, 1) := by decide +kernel
theorem d_tl_resized_1 : decode prog_1_method_48_code 1 = .ok (.getfield 10, 3) := by decide +kernel
theorem d_tl_resized_4 : decode prog_1_method_48_code 4 = .ok (.getfield 63, 3) := by decide +kernel
theorem d_tl_resized_7 : decode prog_1_method_48_code 7 = .ok (.iload_n 1, 1) := by decide +kernel
theorem d_tl_resized_8 : decode prog_1_method_48_code 8 = .ok (.aaload, 1) := by decide +kernel
theorem d_tl_resized_9 : decode prog_1_method_48_code 9 = .ok (.iload_n 2, 1) := by decide +kernel
theorem d_tl_resized_10 : decode prog_1_method_48_code 10 = .ok (.putfield 67, 3) := by decide +kernel
theorem d_tl_resized_13 : decode prog_1_method_48_code 13 = .ok (.iload_n 1, 1) := by decide +kernel
theorem d_tl_resized_14 : decode prog_1_method_48_code 14 = .ok (.ifCond .ne 13, 3) := by decide +kernel
theorem d_tl_resized_17 : decode prog_1_method_48_code 17 = .ok (.aload_n 0, 1) := by decide +kernel
theorem d_tl_resized_18 : decode prog_1_method_48_code 18 = .ok (.getfield 10, 3) := by decide +kernel
theorem d_tl_resized_21 : decode prog_1_method_48_code 21 = .ok (.invokevirtual 363, 3) := by decide +kernel
theorem d_tl_resized_24 : decode prog_1_method_48_code 24 = .ok (.goto 10, 3) := by decide +kernel
theorem d_tl_resized_27 : decode prog_1_method_48_code 27 = .ok (.aload_n 0, 1) := by decide +kernel
theorem d_tl_resized_28 : decode prog_1_method_48_code 28 = .ok (.getfield 10, 3) := by decide +kernel
theorem d_tl_resized_31 : decode prog_1_method_48_code 31 = .ok (.invokevirtual 366, 3) := by decide +kernel
theorem d_tl_resized_34 : decode prog_1_method_48_code 34 = .ok (.aload_n 0, 1) := by decide +kernel
theorem d_tl_resized_35 : decode prog_1_method_48_code 35 = .ok (.getfield 19, 3) := by decide +kernel
theorem d_tl_resized_38 : decode prog_1_method_48_code 38 = .ok (.invokevirtual 138, 3) := by decide +kernel
theorem d_tl_resized_41 : decode prog_1_method_48_code 41 = .ok (.iload_n 2, 1) := by decide +kernel
theorem d_tl_resized_42 : decode prog_1_method_48_code 42 = .ok (.ireturn, 1) := by decide +kernel
theorem d_tl_interestBy_0 : decode prog_1_method_49_code 0 = .ok (.aload_n 0, 1) := by decide +kernel
theorem d_tl_interestBy_1 : decode prog_1_method_49_code 1 = .ok (.getfield 19, 3) := by decide +kernel
theorem d_tl_interestBy_4 : decode prog_1_method_49_code 4 = .ok (.aload_n 0, 1) := by decide +kernel
theorem d_tl_interestBy_5 : decode prog_1_method_49_code 5 = .ok (.getfield 10, 3) := by decide +kernel
theorem d_tl_interestBy_8 : decode prog_1_method_49_code 8 = .ok (.iload_n 1, 1) := by decide +kernel
theorem d_tl_interestBy_9 : decode prog_1_method_49_code 9 = .ok (.aload_n 0, 1) := by decide +kernel
theorem d_tl_interestBy_10 : decode prog_1_method_49_code 10 = .ok (.getfield 33, 3) := by decide +kernel
theorem d_tl_interestBy_13 : decode prog_1_method_49_code 13 = .ok (.invokevirtual 162, 3) := by decide +kernel
theorem d_tl_interestBy_16 : decode prog_1_method_49_code 16 = .ok (.iconst 0, 1) := by decide +kernel
theorem d_tl_interestBy_17 : decode prog_1_method_49_code 17 = .ok (.istore_n 3, 1) := by decide +kernel
theorem d_tl_interestBy_18 : decode prog_1_method_49_code 18 = .ok (.iconst 0, 1) := by decide +kernel
theorem d_tl_interestBy_19 : decode prog_1_method_49_code 19 = .ok (.istore 4, 2) := by decide +kernel
theorem d_tl_interestBy_21 : decode prog_1_method_49_code 21 = .ok (.iload 4, 2) := by decide +kernel
theorem d_tl_interestBy_23 : decode prog_1_method_49_code 23 = .ok (.aload_n 0, 1) := by decide +kernel
theorem d_tl_interestBy_24 : decode prog_1_method_49_code 24 = .ok (.getfield 10, 3) := by decide +kernel
theorem d_tl_interestBy_27 : decode prog_1_method_49_code 27 = .ok (.getfield 225, 3) := by decide +kernel
theorem d_tl_interestBy_30 : decode prog_1_method_49_code 30 = .ok (.if_icmp .ge 22, 3) := by decide +kernel
theorem d_tl_interestBy_33 : decode prog_1_method_49_code 33 = .ok (.iload_n 3, 1) := by decide +kernel
theorem d_tl_interestBy_34 : decode prog_1_method_49_code 34 = .ok (.aload_n 0, 1) := by decide +kernel
theorem d_tl_interestBy_35 : decode prog_1_method_49_code 35 = .ok (.getfield 19, 3) := by decide +kernel
theorem d_tl_interestBy_38 : decode prog_1_method_49_code 38 = .ok (.iload_n 2, 1) := by decide +kernel
theorem d_tl_interestBy_39 : decode prog_1_method_49_code 39 = .ok (.iload 4, 2) := by decide +kernel
theorem d_tl_interestBy_41 : decode prog_1_method_49_code 41 = .ok (.invokevirtual 166, 3) := by decide +kernel
theorem d_tl_interestBy_44 : decode prog_1_method_49_code 44 = .ok (.iadd, 1) := by decide +kernel
theorem d_tl_interestBy_45 : decode prog_1_method_49_code 45 = .ok (.istore_n 3, 1) := by decide +kernel
theorem d_tl_interestBy_46 : decode prog_1_method_49_code 46 = .ok (.iinc 4 1, 3) := by decide +kernel
theorem d_tl_interestBy_49 : decode prog_1_method_49_code 49 = .ok (.goto (-28), 3) := by decide +kernel
theorem d_tl_interestBy_52 : decode prog_1_method_49_code 52 = .ok (.iload_n 3, 1) := by decide +kernel
theorem d_tl_interestBy_53 : decode prog_1_method_49_code 53 = .ok (.aload_n 0, 1) := by decide +kernel
theorem d_tl_interestBy_54 : decode prog_1_method_49_code 54 = .ok (.getfield 10, 3) := by decide +kernel
theorem d_tl_interestBy_57 : decode prog_1_method_49_code 57 = .ok (.invokevirtual 290, 3) := by decide +kernel
theorem d_tl_interestBy_60 : decode prog_1_method_49_code 60 = .ok (.isub, 1) := by decide +kernel
theorem d_tl_interestBy_61 : decode prog_1_method_49_code 61 = .ok (.ireturn, 1) := by decide +kernel
theorem d_tl_tellFromAll_0 : decode prog_1_method_50_code 0 = .ok (.iconst 0, 1) := by decide +kernel
theorem d_tl_tellFromAll_1 : decode prog_1_method_50_code 1 = .ok (.istore_n 3, 1) := by decide +kernel
theorem d_tl_tellFromAll_2 : decode prog_1_method_50_code 2 = .ok (.iload_n 3, 1) := by decide +kernel
theorem d_tl_tellFromAll_3 : decode prog_1_method_50_code 3 = .ok (.aload_n 0, 1) := by decide +kernel
theorem d_tl_tellFromAll_4 : decode prog_1_method_50_code 4 = .ok (.getfield 10, 3) := by decide +kernel
theorem d_tl_tellFromAll_7 : decode prog_1_method_50_code 7 = .ok (.getfield 225, 3) := by decide +kernel
theorem d_tl_tellFromAll_10 : decode prog_1_method_50_code 10 = .ok (.if_icmp .ge 41, 3) := by decide +kernel
theorem d_tl_tellFromAll_13 : decode prog_1_method_50_code 13 = .ok (.iload_n 3, 1) := by decide +kernel
theorem d_tl_tellFromAll_14 : decode prog_1_method_50_code 14 = .ok (.iload_n 1, 1) := by decide +kernel
theorem d_tl_tellFromAll_15 : decode prog_1_method_50_code 15 = .ok (.if_icmp .eq 30, 3) := by decide +kernel
theorem d_tl_tellFromAll_18 : decode prog_1_method_50_code 18 = .ok (.aload_n 0, 1) := by decide +kernel
theorem d_tl_tellFromAll_19 : decode prog_1_method_50_code 19 = .ok (.getfield 10, 3) := by decide +kernel
theorem d_tl_tellFromAll_22 : decode prog_1_method_50_code 22 = .ok (.getfield 86, 3) := by decide +kernel
theorem d_tl_tellFromAll_25 : decode prog_1_method_50_code 25 = .ok (.iload_n 1, 1) := by decide +kernel
theorem d_tl_tellFromAll_26 : decode prog_1_method_50_code 26 = .ok (.aaload, 1) := by decide +kernel
theorem d_tl_tellFromAll_27 : decode prog_1_method_50_code 27 = .ok (.aload_n 0, 1) := by decide +kernel
theorem d_tl_tellFromAll_28 : decode prog_1_method_50_code 28 = .ok (.getfield 10, 3) := by decide +kernel
theorem d_tl_tellFromAll_31 : decode prog_1_method_50_code 31 = .ok (.getfield 86, 3) := by decide +kernel
theorem d_tl_tellFromAll_34 : decode prog_1_method_50_code 34 = .ok (.iload_n 3, 1) := by decide +kernel
theorem d_tl_tellFromAll_35 : decode prog_1_method_50_code 35 = .ok (.aaload, 1) := by decide +kernel
theorem d_tl_tellFromAll_36 : decode prog_1_method_50_code 36 = .ok (.iload_n 2, 1) := by decide +kernel
theorem d_tl_tellFromAll_37 : decode prog_1_method_50_code 37 = .ok (.invokestatic 369, 3) := by decide +kernel
theorem d_tl_tellFromAll_40 : decode prog_1_method_50_code 40 = .ok (.ifCond .ne 5, 3) := by decide +kernel
theorem d_tl_tellFromAll_43 : decode prog_1_method_50_code 43 = .ok (.iconst 0, 1) := by decide +kernel
theorem d_tl_tellFromAll_44 : decode prog_1_method_50_code 44 = .ok (.ireturn, 1) := by decide +kernel
theorem d_tl_tellFromAll_45 : decode prog_1_method_50_code 45 = .ok (.iinc 3 1, 3) := by decide +kernel
theorem d_tl_tellFromAll_48 : decode prog_1_method_50_code 48 = .ok (.goto (-46), 3) := by decide +kernel
theorem d_tl_tellFromAll_51 : decode prog_1_method_50_code 51 = .ok (.iconst 1, 1) := by decide +kernel
theorem d_tl_tellFromAll_52 : decode prog_1_method_50_code 52 = .ok (.ireturn, 1) := by decide +kernel
theorem d_tl_tellFrom_0 : decode prog_1_method_51_code 0 = .ok (.iconst 0, 1) := by decide +kernel
theorem d_tl_tellFrom_1 : decode prog_1_method_51_code 1 = .ok (.istore_n 3, 1) := by decide +kernel
theorem d_tl_tellFrom_2 : decode prog_1_method_51_code 2 = .ok (.iload_n 3, 1) := by decide +kernel
theorem d_tl_tellFrom_3 : decode prog_1_method_51_code 3 = .ok (.bipush 12, 2) := by decide +kernel
theorem d_tl_tellFrom_5 : decode prog_1_method_51_code 5 = .ok (.if_icmp .ge 33, 3) := by decide +kernel
theorem d_tl_tellFrom_8 : decode prog_1_method_51_code 8 = .ok (.iload_n 2, 1) := by decide +kernel
theorem d_tl_tellFrom_9 : decode prog_1_method_51_code 9 = .ok (.iload_n 3, 1) := by decide +kernel
theorem d_tl_tellFrom_10 : decode prog_1_method_51_code 10 = .ok (.ishr, 1) := by decide +kernel
theorem d_tl_tellFrom_11 : decode prog_1_method_51_code 11 = .ok (.iconst 1, 1) := by decide +kernel
theorem d_tl_tellFrom_12 : decode prog_1_method_51_code 12 = .ok (.iand, 1) := by decide +kernel
theorem d_tl_tellFrom_13 : decode prog_1_method_51_code 13 = .ok (.iconst 1, 1) := by decide +kernel
theorem d_tl_tellFrom_14 : decode prog_1_method_51_code 14 = .ok (.if_icmp .ne 18, 3) := by decide +kernel
theorem d_tl_tellFrom_17 : decode prog_1_method_51_code 17 = .ok (.aload_n 0, 1) := by decide +kernel
theorem d_tl_tellFrom_18 : decode prog_1_method_51_code 18 = .ok (.iload_n 3, 1) := by decide +kernel
theorem d_tl_tellFrom_19 : decode prog_1_method_51_code 19 = .ok (.invokevirtual 93, 3) := by decide +kernel
theorem d_tl_tellFrom_22 : decode prog_1_method_51_code 22 = .ok (.aload_n 1, 1) := by decide +kernel
theorem d_tl_tellFrom_23 : decode prog_1_method_51_code 23 = .ok (.iload_n 3, 1) := by decide +kernel
theorem d_tl_tellFrom_24 : decode prog_1_method_51_code 24 = .ok (.invokevirtual 93, 3) := by decide +kernel
theorem d_tl_tellFrom_27 : decode prog_1_method_51_code 27 = .ok (.if_icmp .eq 5, 3) := by decide +kernel
theorem d_tl_tellFrom_30 : decode prog_1_method_51_code 30 = .ok (.iconst 1, 1) := by decide +kernel
theorem d_tl_tellFrom_31 : decode prog_1_method_51_code 31 = .ok (.ireturn, 1) := by decide +kernel
theorem d_tl_tellFrom_32 : decode prog_1_method_51_code 32 = .ok (.iinc 3 1, 3) := by decide +kernel
theorem d_tl_tellFrom_35 : decode prog_1_method_51_code 35 = .ok (.goto (-33), 3) := by decide +kernel
theorem d_tl_tellFrom_38 : decode prog_1_method_51_code 38 = .ok (.iconst 0, 1) := by decide +kernel
theorem d_tl_tellFrom_39 : decode prog_1_method_51_code 39 = .ok (.ireturn, 1) := by decide +kernel
theorem d_tl_refusalOfItem_0 : decode prog_1_method_52_code 0 = .ok (.iload_n 1, 1) := by decide +kernel
theorem d_tl_refusalOfItem_1 : decode prog_1_method_52_code 1 = .ok (.invokestatic 141, 3) := by decide +kernel
theorem d_tl_refusalOfItem_4 : decode prog_1_method_52_code 4 = .ok (.ifCond .eq 10, 3) := by decide +kernel
theorem d_tl_refusalOfItem_7 : decode prog_1_method_52_code 7 = .ok (.iload_n 2, 1) := by decide +kernel
theorem d_tl_refusalOfItem_8 : decode prog_1_method_52_code 8 = .ok (.invokestatic 255, 3) := by decide +kernel
theorem d_tl_refusalOfItem_11 : decode prog_1_method_52_code 11 = .ok (.ifCond .ne 6, 3) := by decide +kernel
theorem d_tl_refusalOfItem_14 : decode prog_1_method_52_code 14 = .ok (.bipush (-2), 2) := by decide +kernel
theorem d_tl_refusalOfItem_16 : decode prog_1_method_52_code 16 = .ok (.ireturn, 1) := by decide +kernel
theorem d_tl_refusalOfItem_17 : decode prog_1_method_52_code 17 = .ok (.aload_n 0, 1) := by decide +kernel
theorem d_tl_refusalOfItem_18 : decode prog_1_method_52_code 18 = .ok (.getfield 46, 3) := by decide +kernel
theorem d_tl_refusalOfItem_21 : decode prog_1_method_52_code 21 = .ok (.iload_n 1, 1) := by decide +kernel
theorem d_tl_refusalOfItem_22 : decode prog_1_method_52_code 22 = .ok (.aaload, 1) := by decide +kernel
theorem d_tl_refusalOfItem_23 : decode prog_1_method_52_code 23 = .ok (.astore 4, 2) := by decide +kernel
theorem d_tl_refusalOfItem_25 : decode prog_1_method_52_code 25 = .ok (.aload 4, 2) := by decide +kernel
theorem d_tl_refusalOfItem_27 : decode prog_1_method_52_code 27 = .ok (.invokevirtual 144, 3) := by decide +kernel
theorem d_tl_refusalOfItem_30 : decode prog_1_method_52_code 30 = .ok (.ifCond .eq 9, 3) := by decide +kernel
theorem d_tl_refusalOfItem_33 : decode prog_1_method_52_code 33 = .ok (.aload_n 0, 1) := by decide +kernel
theorem d_tl_refusalOfItem_34 : decode prog_1_method_52_code 34 = .ok (.iconst 1, 1) := by decide +kernel
theorem d_tl_refusalOfItem_35 : decode prog_1_method_52_code 35 = .ok (.invokevirtual 148, 3) := by decide +kernel
theorem d_tl_refusalOfItem_38 : decode prog_1_method_52_code 38 = .ok (.ireturn, 1) := by decide +kernel
theorem d_tl_refusalOfItem_39 : decode prog_1_method_52_code 39 = .ok (.aload 4, 2) := by decide +kernel
theorem d_tl_refusalOfItem_41 : decode prog_1_method_52_code 41 = .ok (.getfield 260, 3) := by decide +kernel
theorem d_tl_refusalOfItem_44 : decode prog_1_method_52_code 44 = .ok (.iload_n 2, 1) := by decide +kernel
theorem d_tl_refusalOfItem_45 : decode prog_1_method_52_code 45 = .ok (.if_icmp .eq 9, 3) := by decide +kernel
theorem d_tl_refusalOfItem_48 : decode prog_1_method_52_code 48 = .ok (.aload_n 0, 1) := by decide +kernel
theorem d_tl_refusalOfItem_49 : decode prog_1_method_52_code 49 = .ok (.iconst 3, 1) := by decide +kernel
theorem d_tl_refusalOfItem_50 : decode prog_1_method_52_code 50 = .ok (.invokevirtual 148, 3) := by decide +kernel
theorem d_tl_refusalOfItem_53 : decode prog_1_method_52_code 53 = .ok (.ireturn, 1) := by decide +kernel
theorem d_tl_refusalOfItem_54 : decode prog_1_method_52_code 54 = .ok (.iload_n 3, 1) := by decide +kernel
theorem d_tl_refusalOfItem_55 : decode prog_1_method_52_code 55 = .ok (.iconst 0, 1) := by decide +kernel
theorem d_tl_refusalOfItem_56 : decode prog_1_method_52_code 56 = .ok (.aload 4, 2) := by decide +kernel
theorem d_tl_refusalOfItem_58 : decode prog_1_method_52_code 58 = .ok (.getfield 151, 3) := by decide +kernel
theorem d_tl_refusalOfItem_61 : decode prog_1_method_52_code 61 = .ok (.iconst 1, 1) := by decide +kernel
theorem d_tl_refusalOfItem_62 : decode prog_1_method_52_code 62 = .ok (.isub, 1) := by decide +kernel
theorem d_tl_refusalOfItem_63 : decode prog_1_method_52_code 63 = .ok (.invokestatic 59, 3) := by decide +kernel
theorem d_tl_refusalOfItem_66 : decode prog_1_method_52_code 66 = .ok (.ifCond .eq 7, 3) := by decide +kernel
theorem d_tl_refusalOfItem_69 : decode prog_1_method_52_code 69 = .ok (.iconst 0, 1) := by decide +kernel
theorem d_tl_refusalOfItem_70 : decode prog_1_method_52_code 70 = .ok (.goto 8, 3) := by decide +kernel
theorem d_tl_refusalOfItem_73 : decode prog_1_method_52_code 73 = .ok (.aload_n 0, 1) := by decide +kernel
theorem d_tl_refusalOfItem_74 : decode prog_1_method_52_code 74 = .ok (.iconst 2, 1) := by decide +kernel
theorem d_tl_refusalOfItem_75 : decode prog_1_method_52_code 75 = .ok (.invokevirtual 148, 3) := by decide +kernel
theorem d_tl_refusalOfItem_78 : decode prog_1_method_52_code 78 = .ok (.ireturn, 1) := by decide +kernel
theorem d_mo_in_0 : decode prog_13_method_3_code 0 = .ok (.lload_n 0, 1) := by decide +kernel
theorem d_mo_in_1 : decode prog_13_method_3_code 1 = .ok (.lload_n 2, 1) := by decide +kernel
theorem d_mo_in_2 : decode prog_13_method_3_code 2 = .ok (.lcmp, 1) := by decide +kernel
theorem d_mo_in_3 : decode prog_13_method_3_code 3 = .ok (.ifCond .lt 14, 3) := by decide +kernel
theorem d_mo_in_6 : decode prog_13_method_3_code 6 = .ok (.lload_n 0, 1) := by decide +kernel
theorem d_mo_in_7 : decode prog_13_method_3_code 7 = .ok (.lload 4, 2) := by decide +kernel
theorem d_mo_in_9 : decode prog_13_method_3_code 9 = .ok (.lcmp, 1) := by decide +kernel
theorem d_mo_in_10 : decode prog_13_method_3_code 10 = .ok (.ifCond .gt 7, 3) := by decide +kernel
theorem d_mo_in_13 : decode prog_13_method_3_code 13 = .ok (.iconst 1, 1) := by decide +kernel
theorem d_mo_in_14 : decode prog_13_method_3_code 14 = .ok (.goto 4, 3) := by decide +kernel
theorem d_mo_in_17 : decode prog_13_method_3_code 17 = .ok (.iconst 0, 1) := by decide +kernel
theorem d_mo_in_18 : decode prog_13_method_3_code 18 = .ok (.ireturn, 1) := by decide +kernel
theorem d_mo_no_0 : decode prog_13_method_4_code 0 = .ok (.ldc2_w 77, 3) := by decide +kernel
theorem d_mo_no_3 : decode prog_13_method_4_code 3 = .ok (.iload_n 0, 1) := by decide +kernel
theorem d_mo_no_4 : decode prog_13_method_4_code 4 = .ok (.i2l, 1) := by decide +kernel
theorem d_mo_no_5 : decode prog_13_method_4_code 5 = .ok (.lsub, 1) := by decide +kernel
theorem d_mo_no_6 : decode prog_13_method_4_code 6 = .ok (.lreturn, 1) := by decide +kernel
theorem d_mo_isTwo_0 : decode prog_13_method_5_code 0 = .ok (.iload_n 0, 1) := by decide +kernel
theorem d_mo_isTwo_1 : decode prog_13_method_5_code 1 = .ok (.i2l, 1) := by decide +kernel
theorem d_mo_isTwo_2 : decode prog_13_method_5_code 2 = .ok (.lconst 0, 1) := by decide +kernel
theorem d_mo_isTwo_3 : decode prog_13_method_5_code 3 = .ok (.lconst 1, 1) := by decide +kernel
theorem d_mo_isTwo_4 : decode prog_13_method_5_code 4 = .ok (.invokestatic 79, 3) := by decide +kernel
theorem d_mo_isTwo_7 : decode prog_13_method_5_code 7 = .ok (.ireturn, 1) := by decide +kernel
theorem d_mo_isIn_0 : decode prog_13_method_6_code 0 = .ok (.iload_n 0, 1) := by decide +kernel
theorem d_mo_isIn_1 : decode prog_13_method_6_code 1 = .ok (.iload_n 1, 1) := by decide +kernel
theorem d_mo_isIn_2 : decode prog_13_method_6_code 2 = .ok (.ishr, 1) := by decide +kernel
theorem d_mo_isIn_3 : decode prog_13_method_6_code 3 = .ok (.iconst 1, 1) := by decide +kernel
theorem d_mo_isIn_4 : decode prog_13_method_6_code 4 = .ok (.iand, 1) := by decide +kernel
theorem d_mo_isIn_5 : decode prog_13_method_6_code 5 = .ok (.iconst 1, 1) := by decide +kernel
theorem d_mo_isIn_6 : decode prog_13_method_6_code 6 = .ok (.if_icmp .ne 7, 3) := by decide +kernel
theorem d_mo_isIn_9 : decode prog_13_method_6_code 9 = .ok (.iconst 1, 1) := by decide +kernel
theorem d_mo_isIn_10 : decode prog_13_method_6_code 10 = .ok (.goto 4, 3) := by decide +kernel
theorem d_mo_isIn_13 : decode prog_13_method_6_code 13 = .ok (.iconst 0, 1) := by decide +kernel
theorem d_mo_isIn_14 : decode prog_13_method_6_code 14 = .ok (.ireturn, 1) := by decide +kernel
theorem d_mo_ones_0 : decode prog_13_method_7_code 0 = .ok (.iconst 0, 1) := by decide +kernel
theorem d_mo_ones_1 : decode prog_13_method_7_code 1 = .ok (.istore_n 1, 1) := by decide +kernel
theorem d_mo_ones_2 : decode prog_13_method_7_code 2 = .ok (.iload_n 0, 1) := by decide +kernel
theorem d_mo_ones_3 : decode prog_13_method_7_code 3 = .ok (.istore_n 2, 1) := by decide +kernel
theorem d_mo_ones_4 : decode prog_13_method_7_code 4 = .ok (.iload_n 2, 1) := by decide +kernel
theorem d_mo_ones_5 : decode prog_13_method_7_code 5 = .ok (.ifCond .eq 15, 3) := by decide +kernel
theorem d_mo_ones_8 : decode prog_13_method_7_code 8 = .ok (.iinc 1 1, 3) := by decide +kernel
theorem d_mo_ones_11 : decode prog_13_method_7_code 11 = .ok (.iload_n 2, 1) := by decide +kernel
theorem d_mo_ones_12 : decode prog_13_method_7_code 12 = .ok (.iload_n 2, 1) := by decide +kernel
theorem d_mo_ones_13 : decode prog_13_method_7_code 13 = .ok (.iconst 1, 1) := by decide +kernel
theorem d_mo_ones_14 : decode prog_13_method_7_code 14 = .ok (.isub, 1) := by decide +kernel
theorem d_mo_ones_15 : decode prog_13_method_7_code 15 = .ok (.iand, 1) := by decide +kernel
theorem d_mo_ones_16 : decode prog_13_method_7_code 16 = .ok (.istore_n 2, 1) := by decide +kernel
theorem d_mo_ones_17 : decode prog_13_method_7_code 17 = .ok (.goto (-13), 3) := by decide +kernel
theorem d_mo_ones_20 : decode prog_13_method_7_code 20 = .ok (.iload_n 1, 1) := by decide +kernel
theorem d_mo_ones_21 : decode prog_13_method_7_code 21 = .ok (.ireturn, 1) := by decide +kernel
theorem d_mo_lesser_0 : decode prog_13_method_8_code 0 = .ok (.iload_n 0, 1) := by decide +kernel
theorem d_mo_lesser_1 : decode prog_13_method_8_code 1 = .ok (.iload_n 1, 1) := by decide +kernel
theorem d_mo_lesser_2 : decode prog_13_method_8_code 2 = .ok (.if_icmp .ge 7, 3) := by decide +kernel
theorem d_mo_lesser_5 : decode prog_13_method_8_code 5 = .ok (.iload_n 0, 1) := by decide +kernel
theorem d_mo_lesser_6 : decode prog_13_method_8_code 6 = .ok (.goto 4, 3) := by decide +kernel
theorem d_mo_lesser_9 : decode prog_13_method_8_code 9 = .ok (.iload_n 1, 1) := by decide +kernel
theorem d_mo_lesser_10 : decode prog_13_method_8_code 10 = .ok (.ireturn, 1) := by decide +kernel
theorem d_mo_greater_0 : decode prog_13_method_9_code 0 = .ok (.iload_n 0, 1) := by decide +kernel
theorem d_mo_greater_1 : decode prog_13_method_9_code 1 = .ok (.iload_n 1, 1) := by decide +kernel
theorem d_mo_greater_2 : decode prog_13_method_9_code 2 = .ok (.if_icmp .le 7, 3) := by decide +kernel
theorem d_mo_greater_5 : decode prog_13_method_9_code 5 = .ok (.iload_n 0, 1) := by decide +kernel
theorem d_mo_greater_6 : decode prog_13_method_9_code 6 = .ok (.goto 4, 3) := by decide +kernel
theorem d_mo_greater_9 : decode prog_13_method_9_code 9 = .ok (.iload_n 1, 1) := by decide +kernel
theorem d_mo_greater_10 : decode prog_13_method_9_code 10 = .ok (.ireturn, 1) := by decide +kernel
theorem d_mo_part_0 : decode prog_13_method_10_code 0 = .ok (.lload_n 0, 1) := by decide +kernel
theorem d_mo_part_1 : decode prog_13_method_10_code 1 = .ok (.lstore 5, 2) := by decide +kernel
theorem d_mo_part_3 : decode prog_13_method_10_code 3 = .ok (.lload_n 2, 1) := by decide +kernel
theorem d_mo_part_4 : decode prog_13_method_10_code 4 = .ok (.lstore 7, 2) := by decide +kernel
theorem d_mo_part_6 : decode prog_13_method_10_code 6 = .ok (.lload 7, 2) := by decide +kernel
theorem d_mo_part_8 : decode prog_13_method_10_code 8 = .ok (.lconst 0, 1) := by decide +kernel
theorem d_mo_part_9 : decode prog_13_method_10_code 9 = .ok (.lcmp, 1) := by decide +kernel
theorem d_mo_part_10 : decode prog_13_method_10_code 10 = .ok (.ifCond .eq 21, 3) := by decide +kernel
theorem d_mo_part_13 : decode prog_13_method_10_code 13 = .ok (.lload 5, 2) := by decide +kernel
theorem d_mo_part_15 : decode prog_13_method_10_code 15 = .ok (.lload 7, 2) := by decide +kernel
theorem d_mo_part_17 : decode prog_13_method_10_code 17 = .ok (.lrem, 1) := by decide +kernel
theorem d_mo_part_18 : decode prog_13_method_10_code 18 = .ok (.lstore 9, 2) := by decide +kernel
theorem d_mo_part_20 : decode prog_13_method_10_code 20 = .ok (.lload 7, 2) := by decide +kernel
theorem d_mo_part_22 : decode prog_13_method_10_code 22 = .ok (.lstore 5, 2) := by decide +kernel
theorem d_mo_part_24 : decode prog_13_method_10_code 24 = .ok (.lload 9, 2) := by decide +kernel
theorem d_mo_part_26 : decode prog_13_method_10_code 26 = .ok (.lstore 7, 2) := by decide +kernel
theorem d_mo_part_28 : decode prog_13_method_10_code 28 = .ok (.goto (-22), 3) := by decide +kernel
theorem d_mo_part_31 : decode prog_13_method_10_code 31 = .ok (.iload 4, 2) := by decide +kernel
theorem d_mo_part_33 : decode prog_13_method_10_code 33 = .ok (.ifCond .ne 7, 3) := by decide +kernel
theorem d_mo_part_36 : decode prog_13_method_10_code 36 = .ok (.lload_n 0, 1) := by decide +kernel
theorem d_mo_part_37 : decode prog_13_method_10_code 37 = .ok (.goto 4, 3) := by decide +kernel
theorem d_mo_part_40 : decode prog_13_method_10_code 40 = .ok (.lload_n 2, 1) := by decide +kernel
theorem d_mo_part_41 : decode prog_13_method_10_code 41 = .ok (.lload 5, 2) := by decide +kernel
theorem d_mo_part_43 : decode prog_13_method_10_code 43 = .ok (.ldiv, 1) := by decide +kernel
theorem d_mo_part_44 : decode prog_13_method_10_code 44 = .ok (.lreturn, 1) := by decide +kernel
theorem d_mo_finds_0 : decode prog_13_method_11_code 0 = .ok (.aload_n 0, 1) := by decide +kernel
theorem d_mo_finds_1 : decode prog_13_method_11_code 1 = .ok (.iload_n 1, 1) := by decide +kernel
theorem d_mo_finds_2 : decode prog_13_method_11_code 2 = .ok (.putfield 83, 3) := by decide +kernel
theorem d_mo_finds_5 : decode prog_13_method_11_code 5 = .ok (.bipush (-10), 2) := by decide +kernel
theorem d_mo_finds_7 : decode prog_13_method_11_code 7 = .ok (.iload_n 1, 1) := by decide +kernel
theorem d_mo_finds_8 : decode prog_13_method_11_code 8 = .ok (.isub, 1) := by decide +kernel
theorem d_mo_finds_9 : decode prog_13_method_11_code 9 = .ok (.ireturn, 1) := by decide +kernel
theorem d_mo_isSheet_0 : decode prog_13_method_12_code 0 = .ok (.iload_n 0, 1) := by decide +kernel
theorem d_mo_isSheet_1 : decode prog_13_method_12_code 1 = .ok (.i2l, 1) := by decide +kernel
theorem d_mo_isSheet_2 : decode prog_13_method_12_code 2 = .ok (.lconst 0, 1) := by decide +kernel
theorem d_mo_isSheet_3 : decode prog_13_method_12_code 3 = .ok (.ldc2_w 86, 3) := by decide +kernel
theorem d_mo_isSheet_6 : decode prog_13_method_12_code 6 = .ok (.invokestatic 79, 3) := by decide +kernel
theorem d_mo_isSheet_9 : decode prog_13_method_12_code 9 = .ok (.ireturn, 1) := by decide +kernel
theorem d_mo_sheet_0 : decode prog_13_method_13_code 0 = .ok (.iload_n 1, 1) := by decide +kernel
theorem d_mo_sheet_1 : decode prog_13_method_13_code 1 = .ok (.invokestatic 88, 3) := by decide +kernel
theorem d_mo_sheet_4 : decode prog_13_method_13_code 4 = .ok (.ifCond .eq 21, 3) := by decide +kernel
theorem d_mo_sheet_7 : decode prog_13_method_13_code 7 = .ok (.iload_n 2, 1) := by decide +kernel
theorem d_mo_sheet_8 : decode prog_13_method_13_code 8 = .ok (.i2l, 1) := by decide +kernel
theorem d_mo_sheet_9 : decode prog_13_method_13_code 9 = .ok (.lconst 0, 1) := by decide +kernel
theorem d_mo_sheet_10 : decode prog_13_method_13_code 10 = .ok (.ldc2_w 92, 3) := by decide +kernel
theorem d_mo_sheet_13 : decode prog_13_method_13_code 13 = .ok (.invokestatic 79, 3) := by decide +kernel
theorem d_mo_sheet_16 : decode prog_13_method_13_code 16 = .ok (.ifCond .eq 9, 3) := by decide +kernel
theorem d_mo_sheet_19 : decode prog_13_method_13_code 19 = .ok (.iload_n 3, 1) := by decide +kernel
theorem d_mo_sheet_20 : decode prog_13_method_13_code 20 = .ok (.bipush 60, 2) := by decide +kernel
theorem d_mo_sheet_22 : decode prog_13_method_13_code 22 = .ok (.if_icmp .le 6, 3) := by decide +kernel
theorem d_mo_sheet_25 : decode prog_13_method_13_code 25 = .ok (.bipush (-2), 2) := by decide +kernel
theorem d_mo_sheet_27 : decode prog_13_method_13_code 27 = .ok (.ireturn, 1) := by decide +kernel
theorem d_mo_sheet_28 : decode prog_13_method_13_code 28 = .ok (.iload_n 3, 1) := by decide +kernel
theorem d_mo_sheet_29 : decode prog_13_method_13_code 29 = .ok (.ifCond .ge 9, 3) := by decide +kernel
theorem d_mo_sheet_32 : decode prog_13_method_13_code 32 = .ok (.aload_n 0, 1) := by decide +kernel
theorem d_mo_sheet_33 : decode prog_13_method_13_code 33 = .ok (.iconst 5, 1) := by decide +kernel
theorem d_mo_sheet_34 : decode prog_13_method_13_code 34 = .ok (.invokevirtual 94, 3) := by decide +kernel
theorem d_mo_sheet_37 : decode prog_13_method_13_code 37 = .ok (.ireturn, 1) := by decide +kernel
theorem d_mo_sheet_38 : decode prog_13_method_13_code 38 = .ok (.aload_n 0, 1) := by decide +kernel
theorem d_mo_sheet_39 : decode prog_13_method_13_code 39 = .ok (.getfield 7, 3) := by decide +kernel
theorem d_mo_sheet_42 : decode prog_13_method_13_code 42 = .ok (.iload_n 1, 1) := by decide +kernel
theorem d_mo_sheet_43 : decode prog_13_method_13_code 43 = .ok (.iload_n 2, 1) := by decide +kernel
theorem d_mo_sheet_44 : decode prog_13_method_13_code 44 = .ok (.iastore, 1) := by decide +kernel
theorem d_mo_sheet_45 : decode prog_13_method_13_code 45 = .ok (.aload_n 0, 1) := by decide +kernel
theorem d_mo_sheet_46 : decode prog_13_method_13_code 46 = .ok (.getfield 13, 3) := by decide +kernel
theorem d_mo_sheet_49 : decode prog_13_method_13_code 49 = .ok (.iload_n 1, 1) := by decide +kernel
theorem d_mo_sheet_50 : decode prog_13_method_13_code 50 = .ok (.iload_n 3, 1) := by decide +kernel
theorem d_mo_sheet_51 : decode prog_13_method_13_code 51 = .ok (.iastore, 1) := by decide +kernel
theorem d_mo_sheet_52 : decode prog_13_method_13_code 52 = .ok (.iconst 0, 1) := by decide +kernel
theorem d_mo_sheet_53 : decode prog_13_method_13_code 53 = .ok (.istore 4, 2) := by decide +kernel
theorem d_mo_sheet_55 : decode prog_13_method_13_code 55 = .ok (.iload 4, 2) := by decide +kernel
theorem d_mo_sheet_57 : decode prog_13_method_13_code 57 = .ok (.iload_n 3, 1) := by decide +kernel
theorem d_mo_sheet_58 : decode prog_13_method_13_code 58 = .ok (.if_icmp .ge 22, 3) := by decide +kernel
theorem d_mo_sheet_61 : decode prog_13_method_13_code 61 = .ok (.aload_n 0, 1) := by decide +kernel
theorem d_mo_sheet_62 : decode prog_13_method_13_code 62 = .ok (.getfield 16, 3) := by decide +kernel
theorem d_mo_sheet_65 : decode prog_13_method_13_code 65 = .ok (.bipush 60, 2) := by decide +kernel
theorem d_mo_sheet_67 : decode prog_13_method_13_code 67 = .ok (.iload_n 1, 1) := by decide +kernel
theorem d_mo_sheet_68 : decode prog_13_method_13_code 68 = .ok (.imul, 1) := by decide +kernel
theorem d_mo_sheet_69 : decode prog_13_method_13_code 69 = .ok (.iload 4, 2) := by decide +kernel
theorem d_mo_sheet_71 : decode prog_13_method_13_code 71 = .ok (.iadd, 1) := by decide +kernel
theorem d_mo_sheet_72 : decode prog_13_method_13_code 72 = .ok (.iconst 0, 1) := by decide +kernel
theorem d_mo_sheet_73 : decode prog_13_method_13_code 73 = .ok (.iastore, 1) := by decide +kernel
theorem d_mo_sheet_74 : decode prog_13_method_13_code 74 = .ok (.iinc 4 1, 3) := by decide +kernel
theorem d_mo_sheet_77 : decode prog_13_method_13_code 77 = .ok (.goto (-22), 3) := by decide +kernel
theorem d_mo_sheet_80 : decode prog_13_method_13_code 80 = .ok (.iload_n 3, 1) := by decide +kernel
theorem d_mo_sheet_81 : decode prog_13_method_13_code 81 = .ok (.ireturn, 1) := by decide +kernel
theorem d_mo_lose_0 : decode prog_13_method_14_code 0 = .ok (.iload_n 1, 1) := by decide +kernel
theorem d_mo_lose_1 : decode prog_13_method_14_code 1 = .ok (.invokestatic 88, 3) := by decide +kernel
theorem d_mo_lose_4 : decode prog_13_method_14_code 4 = .ok (.ifCond .ne 6, 3) := by decide +kernel
theorem d_mo_lose_7 : decode prog_13_method_14_code 7 = .ok (.bipush (-2), 2) := by decide +kernel
theorem d_mo_lose_9 : decode prog_13_method_14_code 9 = .ok (.ireturn, 1) := by decide +kernel
theorem d_mo_lose_10 : decode prog_13_method_14_code 10 = .ok (.aload_n 0, 1) := by decide +kernel
theorem d_mo_lose_11 : decode prog_13_method_14_code 11 = .ok (.getfield 7, 3) := by decide +kernel
theorem d_mo_lose_14 : decode prog_13_method_14_code 14 = .ok (.iload_n 1, 1) := by decide +kernel
theorem d_mo_lose_15 : decode prog_13_method_14_code 15 = .ok (.iaload, 1) := by decide +kernel
theorem d_mo_lose_16 : decode prog_13_method_14_code 16 = .ok (.ifCond .ge 9, 3) := by decide +kernel
theorem d_mo_lose_19 : decode prog_13_method_14_code 19 = .ok (.aload_n 0, 1) := by decide +kernel
theorem d_mo_lose_20 : decode prog_13_method_14_code 20 = .ok (.iconst 1, 1) := by decide +kernel
theorem d_mo_lose_21 : decode prog_13_method_14_code 21 = .ok (.invokevirtual 94, 3) := by decide +kernel
theorem d_mo_lose_24 : decode prog_13_method_14_code 24 = .ok (.ireturn, 1) := by decide +kernel
theorem d_mo_lose_25 : decode prog_13_method_14_code 25 = .ok (.aload_n 0, 1) := by decide +kernel
theorem d_mo_lose_26 : decode prog_13_method_14_code 26 = .ok (.getfield 7, 3) := by decide +kernel
theorem d_mo_lose_29 : decode prog_13_method_14_code 29 = .ok (.iload_n 1, 1) := by decide +kernel
theorem d_mo_lose_30 : decode prog_13_method_14_code 30 = .ok (.iconst (-1), 1) := by decide +kernel
theorem d_mo_lose_31 : decode prog_13_method_14_code 31 = .ok (.iastore, 1) := by decide +kernel
theorem d_mo_lose_32 : decode prog_13_method_14_code 32 = .ok (.aload_n 0, 1) := by decide +kernel
theorem d_mo_lose_33 : decode prog_13_method_14_code 33 = .ok (.getfield 13, 3) := by decide +kernel
theorem d_mo_lose_36 : decode prog_13_method_14_code 36 = .ok (.iload_n 1, 1) := by decide +kernel
theorem d_mo_lose_37 : decode prog_13_method_14_code 37 = .ok (.iaload, 1) := by decide +kernel
theorem d_mo_lose_38 : decode prog_13_method_14_code 38 = .ok (.ireturn, 1) := by decide +kernel
theorem d_mo_lacks_0 : decode prog_13_method_15_code 0 = .ok (.aload_n 0, 1) := by decide +kernel
theorem d_mo_lacks_1 : decode prog_13_method_15_code 1 = .ok (.getfield 7, 3) := by decide +kernel
theorem d_mo_lacks_4 : decode prog_13_method_15_code 4 = .ok (.iload_n 1, 1) := by decide +kernel
theorem d_mo_lacks_5 : decode prog_13_method_15_code 5 = .ok (.iaload, 1) := by decide +kernel
theorem d_mo_lacks_6 : decode prog_13_method_15_code 6 = .ok (.ifCond .ge 9, 3) := by decide +kernel
theorem d_mo_lacks_9 : decode prog_13_method_15_code 9 = .ok (.aload_n 0, 1) := by decide +kernel
theorem d_mo_lacks_10 : decode prog_13_method_15_code 10 = .ok (.iconst 1, 1) := by decide +kernel
theorem d_mo_lacks_11 : decode prog_13_method_15_code 11 = .ok (.invokevirtual 94, 3) := by decide +kernel
theorem d_mo_lacks_14 : decode prog_13_method_15_code 14 = .ok (.ireturn, 1) := by decide +kernel
theorem d_mo_lacks_15 : decode prog_13_method_15_code 15 = .ok (.aload_n 0, 1) := by decide +kernel
theorem d_mo_lacks_16 : decode prog_13_method_15_code 16 = .ok (.getfield 7, 3) := by decide +kernel
theorem d_mo_lacks_19 : decode prog_13_method_15_code 19 = .ok (.iload_n 1, 1) := by decide +kernel
theorem d_mo_lacks_20 : decode prog_13_method_15_code 20 = .ok (.iaload, 1) := by decide +kernel
theorem d_mo_lacks_21 : decode prog_13_method_15_code 21 = .ok (.iload_n 2, 1) := by decide +kernel
theorem d_mo_lacks_22 : decode prog_13_method_15_code 22 = .ok (.if_icmp .eq 9, 3) := by decide +kernel
theorem d_mo_lacks_25 : decode prog_13_method_15_code 25 = .ok (.aload_n 0, 1) := by decide +kernel
theorem d_mo_lacks_26 : decode prog_13_method_15_code 26 = .ok (.iconst 3, 1) := by decide +kernel
theorem d_mo_lacks_27 : decode prog_13_method_15_code 27 = .ok (.invokevirtual 94, 3) := by decide +kernel
theorem d_mo_lacks_30 : decode prog_13_method_15_code 30 = .ok (.ireturn, 1) := by decide +kernel
theorem d_mo_lacks_31 : decode prog_13_method_15_code 31 = .ok (.iload_n 3, 1) := by decide +kernel
theorem d_mo_lacks_32 : decode prog_13_method_15_code 32 = .ok (.i2l, 1) := by decide +kernel
theorem d_mo_lacks_33 : decode prog_13_method_15_code 33 = .ok (.lconst 0, 1) := by decide +kernel
theorem d_mo_lacks_34 : decode prog_13_method_15_code 34 = .ok (.aload_n 0, 1) := by decide +kernel
theorem d_mo_lacks_35 : decode prog_13_method_15_code 35 = .ok (.getfield 13, 3) := by decide +kernel
theorem d_mo_lacks_38 : decode prog_13_method_15_code 38 = .ok (.iload_n 1, 1) := by decide +kernel
theorem d_mo_lacks_39 : decode prog_13_method_15_code 39 = .ok (.iaload, 1) := by decide +kernel
theorem d_mo_lacks_40 : decode prog_13_method_15_code 40 = .ok (.iconst 1, 1) := by decide +kernel
theorem d_mo_lacks_41 : decode prog_13_method_15_code 41 = .ok (.isub, 1) := by decide +kernel
theorem d_mo_lacks_42 : decode prog_13_method_15_code 42 = .ok (.i2l, 1) := by decide +kernel
theorem d_mo_lacks_43 : decode prog_13_method_15_code 43 = .ok (.invokestatic 79, 3) := by decide +kernel
theorem d_mo_lacks_46 : decode prog_13_method_15_code 46 = .ok (.ifCond .eq 7, 3) := by decide +kernel
theorem d_mo_lacks_49 : decode prog_13_method_15_code 49 = .ok (.iconst 0, 1) := by decide +kernel
theorem d_mo_lacks_50 : decode prog_13_method_15_code 50 = .ok (.goto 8, 3) := by decide +kernel
theorem d_mo_lacks_53 : decode prog_13_method_15_code 53 = .ok (.aload_n 0, 1) := by decide +kernel
theorem d_mo_lacks_54 : decode prog_13_method_15_code 54 = .ok (.iconst 2, 1) := by decide +kernel
theorem d_mo_lacks_55 : decode prog_13_method_15_code 55 = .ok (.invokevirtual 94, 3) := by decide +kernel
theorem d_mo_lacks_58 : decode prog_13_method_15_code 58 = .ok (.ireturn, 1) := by decide +kernel
theorem d_mo_cut_0 : decode prog_13_method_16_code 0 = .ok (.iload_n 0, 1) := by decide +kernel
theorem d_mo_cut_1 : decode prog_13_method_16_code 1 = .ok (.ifCond .ne 8, 3) := by decide +kernel
theorem d_mo_cut_4 : decode prog_13_method_16_code 4 = .ok (.iload_n 1, 1) := by decide +kernel
theorem d_mo_cut_5 : decode prog_13_method_16_code 5 = .ok (.i2b, 1) := by decide +kernel
theorem d_mo_cut_6 : decode prog_13_method_16_code 6 = .ok (.goto 14, 3) := by decide +kernel
theorem d_mo_cut_9 : decode prog_13_method_16_code 9 = .ok (.iload_n 0, 1) := by decide +kernel
theorem d_mo_cut_10 : decode prog_13_method_16_code 10 = .ok (.iconst 1, 1) := by decide +kernel
theorem d_mo_cut_11 : decode prog_13_method_16_code 11 = .ok (.if_icmp .ne 8, 3) := by decide +kernel
theorem d_mo_cut_14 : decode prog_13_method_16_code 14 = .ok (.iload_n 1, 1) := by decide +kernel
theorem d_mo_cut_15 : decode prog_13_method_16_code 15 = .ok (.i2s, 1) := by decide +kernel
theorem d_mo_cut_16 : decode prog_13_method_16_code 16 = .ok (.goto 4, 3) := by decide +kernel
theorem d_mo_cut_19 : decode prog_13_method_16_code 19 = .ok (.iload_n 1, 1) := by decide +kernel
theorem d_mo_cut_20 : decode prog_13_method_16_code 20 = .ok (.ireturn, 1) := by decide +kernel
theorem d_mo_lay_0 : decode prog_13_method_17_code 0 = .ok (.iload_n 1, 1) := by decide +kernel
theorem d_mo_lay_1 : decode prog_13_method_17_code 1 = .ok (.invokestatic 88, 3) := by decide +kernel
theorem d_mo_lay_4 : decode prog_13_method_17_code 4 = .ok (.ifCond .eq 15, 3) := by decide +kernel
theorem d_mo_lay_7 : decode prog_13_method_17_code 7 = .ok (.iload_n 2, 1) := by decide +kernel
theorem d_mo_lay_8 : decode prog_13_method_17_code 8 = .ok (.i2l, 1) := by decide +kernel
theorem d_mo_lay_9 : decode prog_13_method_17_code 9 = .ok (.lconst 0, 1) := by decide +kernel
theorem d_mo_lay_10 : decode prog_13_method_17_code 10 = .ok (.ldc2_w 92, 3) := by decide +kernel
theorem d_mo_lay_13 : decode prog_13_method_17_code 13 = .ok (.invokestatic 79, 3) := by decide +kernel
theorem d_mo_lay_16 : decode prog_13_method_17_code 16 = .ok (.ifCond .ne 6, 3) := by decide +kernel
theorem d_mo_lay_19 : decode prog_13_method_17_code 19 = .ok (.bipush (-2), 2) := by decide +kernel
theorem d_mo_lay_21 : decode prog_13_method_17_code 21 = .ok (.ireturn, 1) := by decide +kernel
theorem d_mo_lay_22 : decode prog_13_method_17_code 22 = .ok (.aload_n 0, 1) := by decide +kernel
theorem d_mo_lay_23 : decode prog_13_method_17_code 23 = .ok (.iload_n 1, 1) := by decide +kernel
theorem d_mo_lay_24 : decode prog_13_method_17_code 24 = .ok (.iload_n 2, 1) := by decide +kernel
theorem d_mo_lay_25 : decode prog_13_method_17_code 25 = .ok (.iload_n 3, 1) := by decide +kernel
theorem d_mo_lay_26 : decode prog_13_method_17_code 26 = .ok (.invokevirtual 98, 3) := by decide +kernel
theorem d_mo_lay_29 : decode prog_13_method_17_code 29 = .ok (.istore 5, 2) := by decide +kernel
theorem d_mo_lay_31 : decode prog_13_method_17_code 31 = .ok (.iload 5, 2) := by decide +kernel
theorem d_mo_lay_33 : decode prog_13_method_17_code 33 = .ok (.ifCond .eq 6, 3) := by decide +kernel
theorem d_mo_lay_36 : decode prog_13_method_17_code 36 = .ok (.iload 5, 2) := by decide +kernel
theorem d_mo_lay_38 : decode prog_13_method_17_code 38 = .ok (.ireturn, 1) := by decide +kernel
theorem d_mo_lay_39 : decode prog_13_method_17_code 39 = .ok (.aload_n 0, 1) := by decide +kernel
theorem d_mo_lay_40 : decode prog_13_method_17_code 40 = .ok (.getfield 16, 3) := by decide +kernel
theorem d_mo_lay_43 : decode prog_13_method_17_code 43 = .ok (.bipush 60, 2) := by decide +kernel
theorem d_mo_lay_45 : decode prog_13_method_17_code 45 = .ok (.iload_n 1, 1) := by decide +kernel
theorem d_mo_lay_46 : decode prog_13_method_17_code 46 = .ok (.imul, 1) := by decide +kernel
theorem d_mo_lay_47 : decode prog_13_method_17_code 47 = .ok (.iload_n 3, 1) := by decide +kernel
theorem d_mo_lay_48 : decode prog_13_method_17_code 48 = .ok (.iadd, 1) := by decide +kernel
theorem d_mo_lay_49 : decode prog_13_method_17_code 49 = .ok (.iload_n 2, 1) := by decide +kernel
theorem d_mo_lay_50 : decode prog_13_method_17_code 50 = .ok (.iload 4, 2) := by decide +kernel
theorem d_mo_lay_52 : decode prog_13_method_17_code 52 = .ok (.invokestatic 102, 3) := by decide +kernel
theorem d_mo_lay_55 : decode prog_13_method_17_code 55 = .ok (.iastore, 1) := by decide +kernel
theorem d_mo_lay_56 : decode prog_13_method_17_code 56 = .ok (.iconst 1, 1) := by decide +kernel
theorem d_mo_lay_57 : decode prog_13_method_17_code 57 = .ok (.ireturn, 1) := by decide +kernel
theorem d_mo_get_0 : decode prog_13_method_18_code 0 = .ok (.iload_n 1, 1) := by decide +kernel
theorem d_mo_get_1 : decode prog_13_method_18_code 1 = .ok (.invokestatic 88, 3) := by decide +kernel
theorem d_mo_get_4 : decode prog_13_method_18_code 4 = .ok (.ifCond .eq 25, 3) := by decide +kernel
theorem d_mo_get_7 : decode prog_13_method_18_code 7 = .ok (.iload_n 2, 1) := by decide +kernel
theorem d_mo_get_8 : decode prog_13_method_18_code 8 = .ok (.i2l, 1) := by decide +kernel
theorem d_mo_get_9 : decode prog_13_method_18_code 9 = .ok (.lconst 0, 1) := by decide +kernel
theorem d_mo_get_10 : decode prog_13_method_18_code 10 = .ok (.ldc2_w 92, 3) := by decide +kernel
theorem d_mo_get_13 : decode prog_13_method_18_code 13 = .ok (.invokestatic 79, 3) := by decide +kernel
theorem d_mo_get_16 : decode prog_13_method_18_code 16 = .ok (.ifCond .eq 13, 3) := by decide +kernel
theorem d_mo_get_19 : decode prog_13_method_18_code 19 = .ok (.aload_n 0, 1) := by decide +kernel
theorem d_mo_get_20 : decode prog_13_method_18_code 20 = .ok (.iload_n 1, 1) := by decide +kernel
theorem d_mo_get_21 : decode prog_13_method_18_code 21 = .ok (.iload_n 2, 1) := by decide +kernel
theorem d_mo_get_22 : decode prog_13_method_18_code 22 = .ok (.iload_n 3, 1) := by decide +kernel
theorem d_mo_get_23 : decode prog_13_method_18_code 23 = .ok (.invokevirtual 98, 3) := by decide +kernel
theorem d_mo_get_26 : decode prog_13_method_18_code 26 = .ok (.ifCond .eq 6, 3) := by decide +kernel
theorem d_mo_get_29 : decode prog_13_method_18_code 29 = .ok (.ldc 106, 2) := by decide +kernel
theorem d_mo_get_31 : decode prog_13_method_18_code 31 = .ok (.ireturn, 1) := by decide +kernel
theorem d_mo_get_32 : decode prog_13_method_18_code 32 = .ok (.aload_n 0, 1) := by decide +kernel
theorem d_mo_get_33 : decode prog_13_method_18_code 33 = .ok (.getfield 16, 3) := by decide +kernel
theorem d_mo_get_36 : decode prog_13_method_18_code 36 = .ok (.bipush 60, 2) := by decide +kernel
theorem d_mo_get_38 : decode prog_13_method_18_code 38 = .ok (.iload_n 1, 1) := by decide +kernel
theorem d_mo_get_39 : decode prog_13_method_18_code 39 = .ok (.imul, 1) := by decide +kernel
theorem d_mo_get_40 : decode prog_13_method_18_code 40 = .ok (.iload_n 3, 1) := by decide +kernel
theorem d_mo_get_41 : decode prog_13_method_18_code 41 = .ok (.iadd, 1) := by decide +kernel
theorem d_mo_get_42 : decode prog_13_method_18_code 42 = .ok (.iaload, 1) := by decide +kernel
theorem d_mo_get_43 : decode prog_13_method_18_code 43 = .ok (.ireturn, 1) := by decide +kernel
theorem d_mo_copy_0 : decode prog_13_method_19_code 0 = .ok (.iload_n 1, 1) := by decide +kernel
theorem d_mo_copy_1 : decode prog_13_method_19_code 1 = .ok (.invokestatic 88, 3) := by decide +kernel
theorem d_mo_copy_4 : decode prog_13_method_19_code 4 = .ok (.ifCond .eq 10, 3) := by decide +kernel
theorem d_mo_copy_7 : decode prog_13_method_19_code 7 = .ok (.iload_n 3, 1) := by decide +kernel
theorem d_mo_copy_8 : decode prog_13_method_19_code 8 = .ok (.invokestatic 88, 3) := by decide +kernel
theorem d_mo_copy_11 : decode prog_13_method_19_code 11 = .ok (.ifCond .ne 6, 3) := by decide +kernel
theorem d_mo_copy_14 : decode prog_13_method_19_code 14 = .ok (.bipush (-2), 2) := by decide +kernel
theorem d_mo_copy_16 : decode prog_13_method_19_code 16 = .ok (.ireturn, 1) := by decide +kernel
theorem d_mo_copy_17 : decode prog_13_method_19_code 17 = .ok (.aload_n 0, 1) := by decide +kernel
theorem d_mo_copy_18 : decode prog_13_method_19_code 18 = .ok (.getfield 7, 3) := by decide +kernel
theorem d_mo_copy_21 : decode prog_13_method_19_code 21 = .ok (.iload_n 1, 1) := by decide +kernel
theorem d_mo_copy_22 : decode prog_13_method_19_code 22 = .ok (.iaload, 1) := by decide +kernel
theorem d_mo_copy_23 : decode prog_13_method_19_code 23 = .ok (.ifCond .lt 12, 3) := by decide +kernel
theorem d_mo_copy_26 : decode prog_13_method_19_code 26 = .ok (.aload_n 0, 1) := by decide +kernel
theorem d_mo_copy_27 : decode prog_13_method_19_code 27 = .ok (.getfield 7, 3) := by decide +kernel
theorem d_mo_copy_30 : decode prog_13_method_19_code 30 = .ok (.iload_n 3, 1) := by decide +kernel
theorem d_mo_copy_31 : decode prog_13_method_19_code 31 = .ok (.iaload, 1) := by decide +kernel
theorem d_mo_copy_32 : decode prog_13_method_19_code 32 = .ok (.ifCond .ge 9, 3) := by decide +kernel
theorem d_mo_copy_35 : decode prog_13_method_19_code 35 = .ok (.aload_n 0, 1) := by decide +kernel
theorem d_mo_copy_36 : decode prog_13_method_19_code 36 = .ok (.iconst 1, 1) := by decide +kernel
theorem d_mo_copy_37 : decode prog_13_method_19_code 37 = .ok (.invokevirtual 94, 3) := by decide +kernel
theorem d_mo_copy_40 : decode prog_13_method_19_code 40 = .ok (.ireturn, 1) := by decide +kernel
theorem d_mo_copy_41 : decode prog_13_method_19_code 41 = .ok (.aload_n 0, 1) := by decide +kernel
theorem d_mo_copy_42 : decode prog_13_method_19_code 42 = .ok (.getfield 7, 3) := by decide +kernel
theorem d_mo_copy_45 : decode prog_13_method_19_code 45 = .ok (.iload_n 1, 1) := by decide +kernel
theorem d_mo_copy_46 : decode prog_13_method_19_code 46 = .ok (.iaload, 1) := by decide +kernel
theorem d_mo_copy_47 : decode prog_13_method_19_code 47 = .ok (.aload_n 0, 1) := by decide +kernel
theorem d_mo_copy_48 : decode prog_13_method_19_code 48 = .ok (.getfield 7, 3) := by decide +kernel
theorem d_mo_copy_51 : decode prog_13_method_19_code 51 = .ok (.iload_n 3, 1) := by decide +kernel
theorem d_mo_copy_52 : decode prog_13_method_19_code 52 = .ok (.iaload, 1) := by decide +kernel
theorem d_mo_copy_53 : decode prog_13_method_19_code 53 = .ok (.if_icmp .eq 9, 3) := by decide +kernel
theorem d_mo_copy_56 : decode prog_13_method_19_code 56 = .ok (.aload_n 0, 1) := by decide +kernel
theorem d_mo_copy_57 : decode prog_13_method_19_code 57 = .ok (.iconst 4, 1) := by decide +kernel
theorem d_mo_copy_58 : decode prog_13_method_19_code 58 = .ok (.invokevirtual 94, 3) := by decide +kernel
theorem d_mo_copy_61 : decode prog_13_method_19_code 61 = .ok (.ireturn, 1) := by decide +kernel
theorem d_mo_copy_62 : decode prog_13_method_19_code 62 = .ok (.iload_n 2, 1) := by decide +kernel
theorem d_mo_copy_63 : decode prog_13_method_19_code 63 = .ok (.ifCond .lt 48, 3) := by decide +kernel
theorem d_mo_copy_66 : decode prog_13_method_19_code 66 = .ok (.iload 4, 2) := by decide +kernel
theorem d_mo_copy_68 : decode prog_13_method_19_code 68 = .ok (.ifCond .lt 43, 3) := by decide +kernel
theorem d_mo_copy_71 : decode prog_13_method_19_code 71 = .ok (.iload 5, 2) := by decide +kernel
theorem d_mo_copy_73 : decode prog_13_method_19_code 73 = .ok (.ifCond .lt 38, 3) := by decide +kernel
theorem d_mo_copy_76 : decode prog_13_method_19_code 76 = .ok (.iload_n 2, 1) := by decide +kernel
theorem d_mo_copy_77 : decode prog_13_method_19_code 77 = .ok (.i2l, 1) := by decide +kernel
theorem d_mo_copy_78 : decode prog_13_method_19_code 78 = .ok (.iload 5, 2) := by decide +kernel
theorem d_mo_copy_80 : decode prog_13_method_19_code 80 = .ok (.i2l, 1) := by decide +kernel
theorem d_mo_copy_81 : decode prog_13_method_19_code 81 = .ok (.ladd, 1) := by decide +kernel
theorem d_mo_copy_82 : decode prog_13_method_19_code 82 = .ok (.aload_n 0, 1) := by decide +kernel
theorem d_mo_copy_83 : decode prog_13_method_19_code 83 = .ok (.getfield 13, 3) := by decide +kernel
theorem d_mo_copy_86 : decode prog_13_method_19_code 86 = .ok (.iload_n 1, 1) := by decide +kernel
theorem d_mo_copy_87 : decode prog_13_method_19_code 87 = .ok (.iaload, 1) := by decide +kernel
theorem d_mo_copy_88 : decode prog_13_method_19_code 88 = .ok (.i2l, 1) := by decide +kernel
theorem d_mo_copy_89 : decode prog_13_method_19_code 89 = .ok (.lcmp, 1) := by decide +kernel
theorem d_mo_copy_90 : decode prog_13_method_19_code 90 = .ok (.ifCond .gt 21, 3) := by decide +kernel
theorem d_mo_copy_93 : decode prog_13_method_19_code 93 = .ok (.iload 4, 2) := by decide +kernel
theorem d_mo_copy_95 : decode prog_13_method_19_code 95 = .ok (.i2l, 1) := by decide +kernel
theorem d_mo_copy_96 : decode prog_13_method_19_code 96 = .ok (.iload 5, 2) := by decide +kernel
theorem d_mo_copy_98 : decode prog_13_method_19_code 98 = .ok (.i2l, 1) := by decide +kernel
theorem d_mo_copy_99 : decode prog_13_method_19_code 99 = .ok (.ladd, 1) := by decide +kernel
theorem d_mo_copy_100 : decode prog_13_method_19_code 100 = .ok (.aload_n 0, 1) := by decide +kernel
theorem d_mo_copy_101 : decode prog_13_method_19_code 101 = .ok (.getfield 13, 3) := by decide +kernel
theorem d_mo_copy_104 : decode prog_13_method_19_code 104 = .ok (.iload_n 3, 1) := by decide +kernel
theorem d_mo_copy_105 : decode prog_13_method_19_code 105 = .ok (.iaload, 1) := by decide +kernel
theorem d_mo_copy_106 : decode prog_13_method_19_code 106 = .ok (.i2l, 1) := by decide +kernel
theorem d_mo_copy_107 : decode prog_13_method_19_code 107 = .ok (.lcmp, 1) := by decide +kernel
theorem d_mo_copy_108 : decode prog_13_method_19_code 108 = .ok (.ifCond .le 9, 3) := by decide +kernel
theorem d_mo_copy_111 : decode prog_13_method_19_code 111 = .ok (.aload_n 0, 1) := by decide +kernel
theorem d_mo_copy_112 : decode prog_13_method_19_code 112 = .ok (.iconst 2, 1) := by decide +kernel
theorem d_mo_copy_113 : decode prog_13_method_19_code 113 = .ok (.invokevirtual 94, 3) := by decide +kernel
theorem d_mo_copy_116 : decode prog_13_method_19_code 116 = .ok (.ireturn, 1) := by decide +kernel
theorem d_mo_copy_117 : decode prog_13_method_19_code 117 = .ok (.iconst 0, 1) := by decide +kernel
theorem d_mo_copy_118 : decode prog_13_method_19_code 118 = .ok (.istore 6, 2) := by decide +kernel
theorem d_mo_copy_120 : decode prog_13_method_19_code 120 = .ok (.iload 6, 2) := by decide +kernel
theorem d_mo_copy_122 : decode prog_13_method_19_code 122 = .ok (.iload 5, 2) := by decide +kernel
theorem d_mo_copy_124 : decode prog_13_method_19_code 124 = .ok (.if_icmp .ge 30, 3) := by decide +kernel
theorem d_mo_copy_127 : decode prog_13_method_19_code 127 = .ok (.aload_n 0, 1) := by decide +kernel
theorem d_mo_copy_128 : decode prog_13_method_19_code 128 = .ok (.getfield 19, 3) := by decide +kernel
theorem d_mo_copy_131 : decode prog_13_method_19_code 131 = .ok (.iload 6, 2) := by decide +kernel
theorem d_mo_copy_133 : decode prog_13_method_19_code 133 = .ok (.aload_n 0, 1) := by decide +kernel
theorem d_mo_copy_134 : decode prog_13_method_19_code 134 = .ok (.getfield 16, 3) := by decide +kernel
theorem d_mo_copy_137 : decode prog_13_method_19_code 137 = .ok (.bipush 60, 2) := by decide +kernel
theorem d_mo_copy_139 : decode prog_13_method_19_code 139 = .ok (.iload_n 1, 1) := by decide +kernel
theorem d_mo_copy_140 : decode prog_13_method_19_code 140 = .ok (.imul, 1) := by decide +kernel
theorem d_mo_copy_141 : decode prog_13_method_19_code 141 = .ok (.iload_n 2, 1) := by decide +kernel
theorem d_mo_copy_142 : decode prog_13_method_19_code 142 = .ok (.iadd, 1) := by decide +kernel
theorem d_mo_copy_143 : decode prog_13_method_19_code 143 = .ok (.iload 6, 2) := by decide +kernel
theorem d_mo_copy_145 : decode prog_13_method_19_code 145 = .ok (.iadd, 1) := by decide +kernel
theorem d_mo_copy_146 : decode prog_13_method_19_code 146 = .ok (.iaload, 1) := by decide +kernel
theorem d_mo_copy_147 : decode prog_13_method_19_code 147 = .ok (.iastore, 1) := by decide +kernel
theorem d_mo_copy_148 : decode prog_13_method_19_code 148 = .ok (.iinc 6 1, 3) := by decide +kernel
theorem d_mo_copy_151 : decode prog_13_method_19_code 151 = .ok (.goto (-31), 3) := by decide +kernel
theorem d_mo_copy_154 : decode prog_13_method_19_code 154 = .ok (.iconst 0, 1) := by decide +kernel
theorem d_mo_copy_155 : decode prog_13_method_19_code 155 = .ok (.istore 6, 2) := by decide +kernel
theorem d_mo_copy_157 : decode prog_13_method_19_code 157 = .ok (.iload 6, 2) := by decide +kernel
theorem d_mo_copy_159 : decode prog_13_method_19_code 159 = .ok (.iload 5, 2) := by decide +kernel
theorem d_mo_copy_161 : decode prog_13_method_19_code 161 = .ok (.if_icmp .ge 31, 3) := by decide +kernel
theorem d_mo_copy_164 : decode prog_13_method_19_code 164 = .ok (.aload_n 0, 1) := by decide +kernel
theorem d_mo_copy_165 : decode prog_13_method_19_code 165 = .ok (.getfield 16, 3) := by decide +kernel
theorem d_mo_copy_168 : decode prog_13_method_19_code 168 = .ok (.bipush 60, 2) := by decide +kernel
theorem d_mo_copy_170 : decode prog_13_method_19_code 170 = .ok (.iload_n 3, 1) := by decide +kernel
theorem d_mo_copy_171 : decode prog_13_method_19_code 171 = .ok (.imul, 1) := by decide +kernel
theorem d_mo_copy_172 : decode prog_13_method_19_code 172 = .ok (.iload 4, 2) := by decide +kernel
theorem d_mo_copy_174 : decode prog_13_method_19_code 174 = .ok (.iadd, 1) := by decide +kernel
theorem d_mo_copy_175 : decode prog_13_method_19_code 175 = .ok (.iload 6, 2) := by decide +kernel
theorem d_mo_copy_177 : decode prog_13_method_19_code 177 = .ok (.iadd, 1) := by decide +kernel
theorem d_mo_copy_178 : decode prog_13_method_19_code 178 = .ok (.aload_n 0, 1) := by decide +kernel
theorem d_mo_copy_179 : decode prog_13_method_19_code 179 = .ok (.getfield 19, 3) := by decide +kernel
theorem d_mo_copy_182 : decode prog_13_method_19_code 182 = .ok (.iload 6, 2) := by decide +kernel
theorem d_mo_copy_184 : decode prog_13_method_19_code 184 = .ok (.iaload, 1) := by decide +kernel
theorem d_mo_copy_185 : decode prog_13_method_19_code 185 = .ok (.iastore, 1) := by decide +kernel
theorem d_mo_copy_186 : decode prog_13_method_19_code 186 = .ok (.iinc 6 1, 3) := by decide +kernel
theorem d_mo_copy_189 : decode prog_13_method_19_code 189 = .ok (.goto (-32), 3) := by decide +kernel
theorem d_mo_copy_192 : decode prog_13_method_19_code 192 = .ok (.iconst 1, 1) := by decide +kernel
theorem d_mo_copy_193 : decode prog_13_method_19_code 193 = .ok (.ireturn, 1) := by decide +kernel
