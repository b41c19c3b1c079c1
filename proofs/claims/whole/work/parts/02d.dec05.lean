theorem d_mo_type_0 : decode prog_13_method_20_code 0 = .ok (.iload_n 1, 1) := by decide +kernel
theorem d_mo_type_1 : decode prog_13_method_20_code 1 = .ok (.invokestatic 107, 3) := by decide +kernel
theorem d_mo_type_4 : decode prog_13_method_20_code 4 = .ok (.ifCond .eq 15, 3) := by decide +kernel
theorem d_mo_type_7 : decode prog_13_method_20_code 7 = .ok (.iload_n 2, 1) := by decide +kernel
theorem d_mo_type_8 : decode prog_13_method_20_code 8 = .ok (.i2l, 1) := by decide +kernel
theorem d_mo_type_9 : decode prog_13_method_20_code 9 = .ok (.lconst 0, 1) := by decide +kernel
theorem d_mo_type_10 : decode prog_13_method_20_code 10 = .ok (.ldc2_w 110, 3) := by decide +kernel
theorem d_mo_type_13 : decode prog_13_method_20_code 13 = .ok (.invokestatic 79, 3) := by decide +kernel
theorem d_mo_type_16 : decode prog_13_method_20_code 16 = .ok (.ifCond .ne 6, 3) := by decide +kernel
theorem d_mo_type_19 : decode prog_13_method_20_code 19 = .ok (.bipush (-2), 2) := by decide +kernel
theorem d_mo_type_21 : decode prog_13_method_20_code 21 = .ok (.ireturn, 1) := by decide +kernel
theorem d_mo_type_22 : decode prog_13_method_20_code 22 = .ok (.aload_n 0, 1) := by decide +kernel
theorem d_mo_type_23 : decode prog_13_method_20_code 23 = .ok (.getfield 25, 3) := by decide +kernel
theorem d_mo_type_26 : decode prog_13_method_20_code 26 = .ok (.iload_n 1, 1) := by decide +kernel
theorem d_mo_type_27 : decode prog_13_method_20_code 27 = .ok (.iaload, 1) := by decide +kernel
theorem d_mo_type_28 : decode prog_13_method_20_code 28 = .ok (.iload_n 1, 1) := by decide +kernel
theorem d_mo_type_29 : decode prog_13_method_20_code 29 = .ok (.ifCond .ne 8, 3) := by decide +kernel
theorem d_mo_type_32 : decode prog_13_method_20_code 32 = .ok (.bipush 59, 2) := by decide +kernel
theorem d_mo_type_34 : decode prog_13_method_20_code 34 = .ok (.goto 5, 3) := by decide +kernel
theorem d_mo_type_37 : decode prog_13_method_20_code 37 = .ok (.bipush 23, 2) := by decide +kernel
theorem d_mo_type_39 : decode prog_13_method_20_code 39 = .ok (.if_icmp .ne 6, 3) := by decide +kernel
theorem d_mo_type_42 : decode prog_13_method_20_code 42 = .ok (.bipush (-4), 2) := by decide +kernel
theorem d_mo_type_44 : decode prog_13_method_20_code 44 = .ok (.ireturn, 1) := by decide +kernel
theorem d_mo_type_45 : decode prog_13_method_20_code 45 = .ok (.aload_n 0, 1) := by decide +kernel
theorem d_mo_type_46 : decode prog_13_method_20_code 46 = .ok (.getfield 22, 3) := by decide +kernel
theorem d_mo_type_49 : decode prog_13_method_20_code 49 = .ok (.bipush 60, 2) := by decide +kernel
theorem d_mo_type_51 : decode prog_13_method_20_code 51 = .ok (.iload_n 1, 1) := by decide +kernel
theorem d_mo_type_52 : decode prog_13_method_20_code 52 = .ok (.imul, 1) := by decide +kernel
theorem d_mo_type_53 : decode prog_13_method_20_code 53 = .ok (.aload_n 0, 1) := by decide +kernel
theorem d_mo_type_54 : decode prog_13_method_20_code 54 = .ok (.getfield 25, 3) := by decide +kernel
theorem d_mo_type_57 : decode prog_13_method_20_code 57 = .ok (.iload_n 1, 1) := by decide +kernel
theorem d_mo_type_58 : decode prog_13_method_20_code 58 = .ok (.iaload, 1) := by decide +kernel
theorem d_mo_type_59 : decode prog_13_method_20_code 59 = .ok (.iadd, 1) := by decide +kernel
theorem d_mo_type_60 : decode prog_13_method_20_code 60 = .ok (.iload_n 2, 1) := by decide +kernel
theorem d_mo_type_61 : decode prog_13_method_20_code 61 = .ok (.iastore, 1) := by decide +kernel
theorem d_mo_type_62 : decode prog_13_method_20_code 62 = .ok (.aload_n 0, 1) := by decide +kernel
theorem d_mo_type_63 : decode prog_13_method_20_code 63 = .ok (.getfield 25, 3) := by decide +kernel
theorem d_mo_type_66 : decode prog_13_method_20_code 66 = .ok (.iload_n 1, 1) := by decide +kernel
theorem d_mo_type_67 : decode prog_13_method_20_code 67 = .ok (.dup2, 1) := by decide +kernel
theorem d_mo_type_68 : decode prog_13_method_20_code 68 = .ok (.iaload, 1) := by decide +kernel
theorem d_mo_type_69 : decode prog_13_method_20_code 69 = .ok (.iconst 1, 1) := by decide +kernel
theorem d_mo_type_70 : decode prog_13_method_20_code 70 = .ok (.iadd, 1) := by decide +kernel
theorem d_mo_type_71 : decode prog_13_method_20_code 71 = .ok (.iastore, 1) := by decide +kernel
theorem d_mo_type_72 : decode prog_13_method_20_code 72 = .ok (.aload_n 0, 1) := by decide +kernel
theorem d_mo_type_73 : decode prog_13_method_20_code 73 = .ok (.getfield 25, 3) := by decide +kernel
theorem d_mo_type_76 : decode prog_13_method_20_code 76 = .ok (.iload_n 1, 1) := by decide +kernel
theorem d_mo_type_77 : decode prog_13_method_20_code 77 = .ok (.iaload, 1) := by decide +kernel
theorem d_mo_type_78 : decode prog_13_method_20_code 78 = .ok (.ireturn, 1) := by decide +kernel
theorem d_mo_wipe_0 : decode prog_13_method_21_code 0 = .ok (.iload_n 1, 1) := by decide +kernel
theorem d_mo_wipe_1 : decode prog_13_method_21_code 1 = .ok (.invokestatic 107, 3) := by decide +kernel
theorem d_mo_wipe_4 : decode prog_13_method_21_code 4 = .ok (.ifCond .ne 6, 3) := by decide +kernel
theorem d_mo_wipe_7 : decode prog_13_method_21_code 7 = .ok (.bipush (-2), 2) := by decide +kernel
theorem d_mo_wipe_9 : decode prog_13_method_21_code 9 = .ok (.ireturn, 1) := by decide +kernel
theorem d_mo_wipe_10 : decode prog_13_method_21_code 10 = .ok (.aload_n 0, 1) := by decide +kernel
theorem d_mo_wipe_11 : decode prog_13_method_21_code 11 = .ok (.getfield 25, 3) := by decide +kernel
theorem d_mo_wipe_14 : decode prog_13_method_21_code 14 = .ok (.iload_n 1, 1) := by decide +kernel
theorem d_mo_wipe_15 : decode prog_13_method_21_code 15 = .ok (.iaload, 1) := by decide +kernel
theorem d_mo_wipe_16 : decode prog_13_method_21_code 16 = .ok (.istore_n 2, 1) := by decide +kernel
theorem d_mo_wipe_17 : decode prog_13_method_21_code 17 = .ok (.aload_n 0, 1) := by decide +kernel
theorem d_mo_wipe_18 : decode prog_13_method_21_code 18 = .ok (.getfield 25, 3) := by decide +kernel
theorem d_mo_wipe_21 : decode prog_13_method_21_code 21 = .ok (.iload_n 1, 1) := by decide +kernel
theorem d_mo_wipe_22 : decode prog_13_method_21_code 22 = .ok (.iconst 0, 1) := by decide +kernel
theorem d_mo_wipe_23 : decode prog_13_method_21_code 23 = .ok (.iastore, 1) := by decide +kernel
theorem d_mo_wipe_24 : decode prog_13_method_21_code 24 = .ok (.iload_n 2, 1) := by decide +kernel
theorem d_mo_wipe_25 : decode prog_13_method_21_code 25 = .ok (.ireturn, 1) := by decide +kernel
theorem d_mo_undo_0 : decode prog_13_method_22_code 0 = .ok (.iload_n 1, 1) := by decide +kernel
theorem d_mo_undo_1 : decode prog_13_method_22_code 1 = .ok (.invokestatic 107, 3) := by decide +kernel
theorem d_mo_undo_4 : decode prog_13_method_22_code 4 = .ok (.ifCond .ne 6, 3) := by decide +kernel
theorem d_mo_undo_7 : decode prog_13_method_22_code 7 = .ok (.bipush (-2), 2) := by decide +kernel
theorem d_mo_undo_9 : decode prog_13_method_22_code 9 = .ok (.ireturn, 1) := by decide +kernel
theorem d_mo_undo_10 : decode prog_13_method_22_code 10 = .ok (.aload_n 0, 1) := by decide +kernel
theorem d_mo_undo_11 : decode prog_13_method_22_code 11 = .ok (.getfield 25, 3) := by decide +kernel
theorem d_mo_undo_14 : decode prog_13_method_22_code 14 = .ok (.iload_n 1, 1) := by decide +kernel
theorem d_mo_undo_15 : decode prog_13_method_22_code 15 = .ok (.iaload, 1) := by decide +kernel
theorem d_mo_undo_16 : decode prog_13_method_22_code 16 = .ok (.ifCond .ne 6, 3) := by decide +kernel
theorem d_mo_undo_19 : decode prog_13_method_22_code 19 = .ok (.bipush (-3), 2) := by decide +kernel
theorem d_mo_undo_21 : decode prog_13_method_22_code 21 = .ok (.ireturn, 1) := by decide +kernel
theorem d_mo_undo_22 : decode prog_13_method_22_code 22 = .ok (.aload_n 0, 1) := by decide +kernel
theorem d_mo_undo_23 : decode prog_13_method_22_code 23 = .ok (.getfield 25, 3) := by decide +kernel
theorem d_mo_undo_26 : decode prog_13_method_22_code 26 = .ok (.iload_n 1, 1) := by decide +kernel
theorem d_mo_undo_27 : decode prog_13_method_22_code 27 = .ok (.dup2, 1) := by decide +kernel
theorem d_mo_undo_28 : decode prog_13_method_22_code 28 = .ok (.iaload, 1) := by decide +kernel
theorem d_mo_undo_29 : decode prog_13_method_22_code 29 = .ok (.iconst 1, 1) := by decide +kernel
theorem d_mo_undo_30 : decode prog_13_method_22_code 30 = .ok (.isub, 1) := by decide +kernel
theorem d_mo_undo_31 : decode prog_13_method_22_code 31 = .ok (.iastore, 1) := by decide +kernel
theorem d_mo_undo_32 : decode prog_13_method_22_code 32 = .ok (.aload_n 0, 1) := by decide +kernel
theorem d_mo_undo_33 : decode prog_13_method_22_code 33 = .ok (.getfield 25, 3) := by decide +kernel
theorem d_mo_undo_36 : decode prog_13_method_22_code 36 = .ok (.iload_n 1, 1) := by decide +kernel
theorem d_mo_undo_37 : decode prog_13_method_22_code 37 = .ok (.iaload, 1) := by decide +kernel
theorem d_mo_undo_38 : decode prog_13_method_22_code 38 = .ok (.ireturn, 1) := by decide +kernel
theorem d_mo_tunesFault_0 : decode prog_13_method_23_code 0 = .ok (.aload_n 0, 1) := by decide +kernel
theorem d_mo_tunesFault_1 : decode prog_13_method_23_code 1 = .ok (.iconst 0, 1) := by decide +kernel
theorem d_mo_tunesFault_2 : decode prog_13_method_23_code 2 = .ok (.putfield 112, 3) := by decide +kernel
theorem d_mo_tunesFault_5 : decode prog_13_method_23_code 5 = .ok (.iload_n 1, 1) := by decide +kernel
theorem d_mo_tunesFault_6 : decode prog_13_method_23_code 6 = .ok (.ireturn, 1) := by decide +kernel
theorem d_mo_readsTunes_0 : decode prog_13_method_24_code 0 = .ok (.aload_n 0, 1) := by decide +kernel
theorem d_mo_readsTunes_1 : decode prog_13_method_24_code 1 = .ok (.iconst 0, 1) := by decide +kernel
theorem d_mo_readsTunes_2 : decode prog_13_method_24_code 2 = .ok (.putfield 112, 3) := by decide +kernel
theorem d_mo_readsTunes_5 : decode prog_13_method_24_code 5 = .ok (.iconst 0, 1) := by decide +kernel
theorem d_mo_readsTunes_6 : decode prog_13_method_24_code 6 = .ok (.istore_n 1, 1) := by decide +kernel
theorem d_mo_readsTunes_7 : decode prog_13_method_24_code 7 = .ok (.iconst 0, 1) := by decide +kernel
theorem d_mo_readsTunes_8 : decode prog_13_method_24_code 8 = .ok (.istore_n 2, 1) := by decide +kernel
theorem d_mo_readsTunes_9 : decode prog_13_method_24_code 9 = .ok (.iload_n 2, 1) := by decide +kernel
theorem d_mo_readsTunes_10 : decode prog_13_method_24_code 10 = .ok (.aload_n 0, 1) := by decide +kernel
theorem d_mo_readsTunes_11 : decode prog_13_method_24_code 11 = .ok (.getfield 25, 3) := by decide +kernel
theorem d_mo_readsTunes_14 : decode prog_13_method_24_code 14 = .ok (.iconst 0, 1) := by decide +kernel
theorem d_mo_readsTunes_15 : decode prog_13_method_24_code 15 = .ok (.iaload, 1) := by decide +kernel
theorem d_mo_readsTunes_16 : decode prog_13_method_24_code 16 = .ok (.if_icmp .ge 113, 3) := by decide +kernel
theorem d_mo_readsTunes_19 : decode prog_13_method_24_code 19 = .ok (.aload_n 0, 1) := by decide +kernel
theorem d_mo_readsTunes_20 : decode prog_13_method_24_code 20 = .ok (.getfield 22, 3) := by decide +kernel
theorem d_mo_readsTunes_23 : decode prog_13_method_24_code 23 = .ok (.iload_n 2, 1) := by decide +kernel
theorem d_mo_readsTunes_24 : decode prog_13_method_24_code 24 = .ok (.iaload, 1) := by decide +kernel
theorem d_mo_readsTunes_25 : decode prog_13_method_24_code 25 = .ok (.istore_n 3, 1) := by decide +kernel
theorem d_mo_readsTunes_26 : decode prog_13_method_24_code 26 = .ok (.iload_n 3, 1) := by decide +kernel
theorem d_mo_readsTunes_27 : decode prog_13_method_24_code 27 = .ok (.bipush 59, 2) := by decide +kernel
theorem d_mo_readsTunes_29 : decode prog_13_method_24_code 29 = .ok (.if_icmp .ne 38, 3) := by decide +kernel
theorem d_mo_readsTunes_32 : decode prog_13_method_24_code 32 = .ok (.iload_n 1, 1) := by decide +kernel
theorem d_mo_readsTunes_33 : decode prog_13_method_24_code 33 = .ok (.ifCond .ne 9, 3) := by decide +kernel
theorem d_mo_readsTunes_36 : decode prog_13_method_24_code 36 = .ok (.aload_n 0, 1) := by decide +kernel
theorem d_mo_readsTunes_37 : decode prog_13_method_24_code 37 = .ok (.iload_n 2, 1) := by decide +kernel
theorem d_mo_readsTunes_38 : decode prog_13_method_24_code 38 = .ok (.invokevirtual 115, 3) := by decide +kernel
theorem d_mo_readsTunes_41 : decode prog_13_method_24_code 41 = .ok (.ireturn, 1) := by decide +kernel
theorem d_mo_readsTunes_42 : decode prog_13_method_24_code 42 = .ok (.aload_n 0, 1) := by decide +kernel
theorem d_mo_readsTunes_43 : decode prog_13_method_24_code 43 = .ok (.getfield 31, 3) := by decide +kernel
theorem d_mo_readsTunes_46 : decode prog_13_method_24_code 46 = .ok (.aload_n 0, 1) := by decide +kernel
theorem d_mo_readsTunes_47 : decode prog_13_method_24_code 47 = .ok (.getfield 112, 3) := by decide +kernel
theorem d_mo_readsTunes_50 : decode prog_13_method_24_code 50 = .ok (.iload_n 1, 1) := by decide +kernel
theorem d_mo_readsTunes_51 : decode prog_13_method_24_code 51 = .ok (.iastore, 1) := by decide +kernel
theorem d_mo_readsTunes_52 : decode prog_13_method_24_code 52 = .ok (.aload_n 0, 1) := by decide +kernel
theorem d_mo_readsTunes_53 : decode prog_13_method_24_code 53 = .ok (.dup, 1) := by decide +kernel
theorem d_mo_readsTunes_54 : decode prog_13_method_24_code 54 = .ok (.getfield 112, 3) := by decide +kernel
theorem d_mo_readsTunes_57 : decode prog_13_method_24_code 57 = .ok (.iconst 1, 1) := by decide +kernel
theorem d_mo_readsTunes_58 : decode prog_13_method_24_code 58 = .ok (.iadd, 1) := by decide +kernel
theorem d_mo_readsTunes_59 : decode prog_13_method_24_code 59 = .ok (.putfield 112, 3) := by decide +kernel
theorem d_mo_readsTunes_62 : decode prog_13_method_24_code 62 = .ok (.iconst 0, 1) := by decide +kernel
theorem d_mo_readsTunes_63 : decode prog_13_method_24_code 63 = .ok (.istore_n 1, 1) := by decide +kernel
theorem d_mo_readsTunes_64 : decode prog_13_method_24_code 64 = .ok (.goto 59, 3) := by decide +kernel
theorem d_mo_readsTunes_67 : decode prog_13_method_24_code 67 = .ok (.iload_n 3, 1) := by decide +kernel
theorem d_mo_readsTunes_68 : decode prog_13_method_24_code 68 = .ok (.i2l, 1) := by decide +kernel
theorem d_mo_readsTunes_69 : decode prog_13_method_24_code 69 = .ok (.ldc2_w 118, 3) := by decide +kernel
theorem d_mo_readsTunes_72 : decode prog_13_method_24_code 72 = .ok (.ldc2_w 120, 3) := by decide +kernel
theorem d_mo_readsTunes_75 : decode prog_13_method_24_code 75 = .ok (.invokestatic 79, 3) := by decide +kernel
theorem d_mo_readsTunes_78 : decode prog_13_method_24_code 78 = .ok (.ifCond .eq 18, 3) := by decide +kernel
theorem d_mo_readsTunes_81 : decode prog_13_method_24_code 81 = .ok (.iload_n 1, 1) := by decide +kernel
theorem d_mo_readsTunes_82 : decode prog_13_method_24_code 82 = .ok (.bipush 12, 2) := by decide +kernel
theorem d_mo_readsTunes_84 : decode prog_13_method_24_code 84 = .ok (.if_icmp .eq 12, 3) := by decide +kernel
theorem d_mo_readsTunes_87 : decode prog_13_method_24_code 87 = .ok (.aload_n 0, 1) := by decide +kernel
theorem d_mo_readsTunes_88 : decode prog_13_method_24_code 88 = .ok (.getfield 112, 3) := by decide +kernel
theorem d_mo_readsTunes_91 : decode prog_13_method_24_code 91 = .ok (.bipush 6, 2) := by decide +kernel
theorem d_mo_readsTunes_93 : decode prog_13_method_24_code 93 = .ok (.if_icmp .ne 9, 3) := by decide +kernel
theorem d_mo_readsTunes_96 : decode prog_13_method_24_code 96 = .ok (.aload_n 0, 1) := by decide +kernel
theorem d_mo_readsTunes_97 : decode prog_13_method_24_code 97 = .ok (.iload_n 2, 1) := by decide +kernel
theorem d_mo_readsTunes_98 : decode prog_13_method_24_code 98 = .ok (.invokevirtual 115, 3) := by decide +kernel
theorem d_mo_readsTunes_101 : decode prog_13_method_24_code 101 = .ok (.ireturn, 1) := by decide +kernel
theorem d_mo_readsTunes_102 : decode prog_13_method_24_code 102 = .ok (.aload_n 0, 1) := by decide +kernel
theorem d_mo_readsTunes_103 : decode prog_13_method_24_code 103 = .ok (.getfield 28, 3) := by decide +kernel
theorem d_mo_readsTunes_106 : decode prog_13_method_24_code 106 = .ok (.bipush 40, 2) := by decide +kernel
theorem d_mo_readsTunes_108 : decode prog_13_method_24_code 108 = .ok (.aload_n 0, 1) := by decide +kernel
theorem d_mo_readsTunes_109 : decode prog_13_method_24_code 109 = .ok (.getfield 112, 3) := by decide +kernel
theorem d_mo_readsTunes_112 : decode prog_13_method_24_code 112 = .ok (.imul, 1) := by decide +kernel
theorem d_mo_readsTunes_113 : decode prog_13_method_24_code 113 = .ok (.iload_n 1, 1) := by decide +kernel
theorem d_mo_readsTunes_114 : decode prog_13_method_24_code 114 = .ok (.iadd, 1) := by decide +kernel
theorem d_mo_readsTunes_115 : decode prog_13_method_24_code 115 = .ok (.iload_n 3, 1) := by decide +kernel
theorem d_mo_readsTunes_116 : decode prog_13_method_24_code 116 = .ok (.bipush 97, 2) := by decide +kernel
theorem d_mo_readsTunes_118 : decode prog_13_method_24_code 118 = .ok (.isub, 1) := by decide +kernel
theorem d_mo_readsTunes_119 : decode prog_13_method_24_code 119 = .ok (.iastore, 1) := by decide +kernel
theorem d_mo_readsTunes_120 : decode prog_13_method_24_code 120 = .ok (.iinc 1 1, 3) := by decide +kernel
theorem d_mo_readsTunes_123 : decode prog_13_method_24_code 123 = .ok (.iinc 2 1, 3) := by decide +kernel
theorem d_mo_readsTunes_126 : decode prog_13_method_24_code 126 = .ok (.goto (-117), 3) := by decide +kernel
theorem d_mo_readsTunes_129 : decode prog_13_method_24_code 129 = .ok (.iload_n 1, 1) := by decide +kernel
theorem d_mo_readsTunes_130 : decode prog_13_method_24_code 130 = .ok (.ifCond .ne 27, 3) := by decide +kernel
theorem d_mo_readsTunes_133 : decode prog_13_method_24_code 133 = .ok (.aload_n 0, 1) := by decide +kernel
theorem d_mo_readsTunes_134 : decode prog_13_method_24_code 134 = .ok (.getfield 25, 3) := by decide +kernel
theorem d_mo_readsTunes_137 : decode prog_13_method_24_code 137 = .ok (.iconst 0, 1) := by decide +kernel
theorem d_mo_readsTunes_138 : decode prog_13_method_24_code 138 = .ok (.iaload, 1) := by decide +kernel
theorem d_mo_readsTunes_139 : decode prog_13_method_24_code 139 = .ok (.ifCond .ne 7, 3) := by decide +kernel
theorem d_mo_readsTunes_142 : decode prog_13_method_24_code 142 = .ok (.iconst (-1), 1) := by decide +kernel
theorem d_mo_readsTunes_143 : decode prog_13_method_24_code 143 = .ok (.goto 13, 3) := by decide +kernel
theorem d_mo_readsTunes_146 : decode prog_13_method_24_code 146 = .ok (.aload_n 0, 1) := by decide +kernel
theorem d_mo_readsTunes_147 : decode prog_13_method_24_code 147 = .ok (.aload_n 0, 1) := by decide +kernel
theorem d_mo_readsTunes_148 : decode prog_13_method_24_code 148 = .ok (.getfield 25, 3) := by decide +kernel
theorem d_mo_readsTunes_151 : decode prog_13_method_24_code 151 = .ok (.iconst 0, 1) := by decide +kernel
theorem d_mo_readsTunes_152 : decode prog_13_method_24_code 152 = .ok (.iaload, 1) := by decide +kernel
theorem d_mo_readsTunes_153 : decode prog_13_method_24_code 153 = .ok (.invokevirtual 115, 3) := by decide +kernel
theorem d_mo_readsTunes_156 : decode prog_13_method_24_code 156 = .ok (.ireturn, 1) := by decide +kernel
theorem d_mo_readsTunes_157 : decode prog_13_method_24_code 157 = .ok (.aload_n 0, 1) := by decide +kernel
theorem d_mo_readsTunes_158 : decode prog_13_method_24_code 158 = .ok (.getfield 31, 3) := by decide +kernel
theorem d_mo_readsTunes_161 : decode prog_13_method_24_code 161 = .ok (.aload_n 0, 1) := by decide +kernel
theorem d_mo_readsTunes_162 : decode prog_13_method_24_code 162 = .ok (.getfield 112, 3) := by decide +kernel
theorem d_mo_readsTunes_165 : decode prog_13_method_24_code 165 = .ok (.iload_n 1, 1) := by decide +kernel
theorem d_mo_readsTunes_166 : decode prog_13_method_24_code 166 = .ok (.iastore, 1) := by decide +kernel
theorem d_mo_readsTunes_167 : decode prog_13_method_24_code 167 = .ok (.aload_n 0, 1) := by decide +kernel
theorem d_mo_readsTunes_168 : decode prog_13_method_24_code 168 = .ok (.dup, 1) := by decide +kernel
theorem d_mo_readsTunes_169 : decode prog_13_method_24_code 169 = .ok (.getfield 112, 3) := by decide +kernel
theorem d_mo_readsTunes_172 : decode prog_13_method_24_code 172 = .ok (.iconst 1, 1) := by decide +kernel
theorem d_mo_readsTunes_173 : decode prog_13_method_24_code 173 = .ok (.iadd, 1) := by decide +kernel
theorem d_mo_readsTunes_174 : decode prog_13_method_24_code 174 = .ok (.putfield 112, 3) := by decide +kernel
theorem d_mo_readsTunes_177 : decode prog_13_method_24_code 177 = .ok (.iconst (-1), 1) := by decide +kernel
theorem d_mo_readsTunes_178 : decode prog_13_method_24_code 178 = .ok (.ireturn, 1) := by decide +kernel
theorem d_mo_howOf_0 : decode prog_13_method_25_code 0 = .ok (.iload_n 0, 1) := by decide +kernel
theorem d_mo_howOf_1 : decode prog_13_method_25_code 1 = .ok (.bipush 43, 2) := by decide +kernel
theorem d_mo_howOf_3 : decode prog_13_method_25_code 3 = .ok (.if_icmp .ne 7, 3) := by decide +kernel
theorem d_mo_howOf_6 : decode prog_13_method_25_code 6 = .ok (.iconst 0, 1) := by decide +kernel
theorem d_mo_howOf_7 : decode prog_13_method_25_code 7 = .ok (.goto 24, 3) := by decide +kernel
theorem d_mo_howOf_10 : decode prog_13_method_25_code 10 = .ok (.iload_n 0, 1) := by decide +kernel
theorem d_mo_howOf_11 : decode prog_13_method_25_code 11 = .ok (.bipush 45, 2) := by decide +kernel
theorem d_mo_howOf_13 : decode prog_13_method_25_code 13 = .ok (.if_icmp .ne 7, 3) := by decide +kernel
theorem d_mo_howOf_16 : decode prog_13_method_25_code 16 = .ok (.iconst 1, 1) := by decide +kernel
theorem d_mo_howOf_17 : decode prog_13_method_25_code 17 = .ok (.goto 14, 3) := by decide +kernel
theorem d_mo_howOf_20 : decode prog_13_method_25_code 20 = .ok (.iload_n 0, 1) := by decide +kernel
theorem d_mo_howOf_21 : decode prog_13_method_25_code 21 = .ok (.bipush 47, 2) := by decide +kernel
theorem d_mo_howOf_23 : decode prog_13_method_25_code 23 = .ok (.if_icmp .ne 7, 3) := by decide +kernel
theorem d_mo_howOf_26 : decode prog_13_method_25_code 26 = .ok (.iconst 2, 1) := by decide +kernel
theorem d_mo_howOf_27 : decode prog_13_method_25_code 27 = .ok (.goto 4, 3) := by decide +kernel
theorem d_mo_howOf_30 : decode prog_13_method_25_code 30 = .ok (.iconst (-1), 1) := by decide +kernel
theorem d_mo_howOf_31 : decode prog_13_method_25_code 31 = .ok (.ireturn, 1) := by decide +kernel
theorem d_mo_readsBorrowers_0 : decode prog_13_method_26_code 0 = .ok (.aload_n 0, 1) := by decide +kernel
theorem d_mo_readsBorrowers_1 : decode prog_13_method_26_code 1 = .ok (.iconst 0, 1) := by decide +kernel
theorem d_mo_readsBorrowers_2 : decode prog_13_method_26_code 2 = .ok (.putfield 122, 3) := by decide +kernel
theorem d_mo_readsBorrowers_5 : decode prog_13_method_26_code 5 = .ok (.aload_n 0, 1) := by decide +kernel
theorem d_mo_readsBorrowers_6 : decode prog_13_method_26_code 6 = .ok (.getfield 25, 3) := by decide +kernel
theorem d_mo_readsBorrowers_9 : decode prog_13_method_26_code 9 = .ok (.iconst 1, 1) := by decide +kernel
theorem d_mo_readsBorrowers_10 : decode prog_13_method_26_code 10 = .ok (.iaload, 1) := by decide +kernel
theorem d_mo_readsBorrowers_11 : decode prog_13_method_26_code 11 = .ok (.istore_n 1, 1) := by decide +kernel
theorem d_mo_readsBorrowers_12 : decode prog_13_method_26_code 12 = .ok (.iconst 0, 1) := by decide +kernel
theorem d_mo_readsBorrowers_13 : decode prog_13_method_26_code 13 = .ok (.istore_n 2, 1) := by decide +kernel
theorem d_mo_readsBorrowers_14 : decode prog_13_method_26_code 14 = .ok (.iload_n 2, 1) := by decide +kernel
theorem d_mo_readsBorrowers_15 : decode prog_13_method_26_code 15 = .ok (.iload_n 1, 1) := by decide +kernel
theorem d_mo_readsBorrowers_16 : decode prog_13_method_26_code 16 = .ok (.if_icmp .ge 141, 3) := by decide +kernel
theorem d_mo_readsBorrowers_19 : decode prog_13_method_26_code 19 = .ok (.aload_n 0, 1) := by decide +kernel
theorem d_mo_readsBorrowers_20 : decode prog_13_method_26_code 20 = .ok (.getfield 22, 3) := by decide +kernel
theorem d_mo_readsBorrowers_23 : decode prog_13_method_26_code 23 = .ok (.bipush 60, 2) := by decide +kernel
theorem d_mo_readsBorrowers_25 : decode prog_13_method_26_code 25 = .ok (.iload_n 2, 1) := by decide +kernel
theorem d_mo_readsBorrowers_26 : decode prog_13_method_26_code 26 = .ok (.iadd, 1) := by decide +kernel
theorem d_mo_readsBorrowers_27 : decode prog_13_method_26_code 27 = .ok (.iaload, 1) := by decide +kernel
theorem d_mo_readsBorrowers_28 : decode prog_13_method_26_code 28 = .ok (.istore_n 3, 1) := by decide +kernel
theorem d_mo_readsBorrowers_29 : decode prog_13_method_26_code 29 = .ok (.iload_n 2, 1) := by decide +kernel
theorem d_mo_readsBorrowers_30 : decode prog_13_method_26_code 30 = .ok (.iconst 4, 1) := by decide +kernel
theorem d_mo_readsBorrowers_31 : decode prog_13_method_26_code 31 = .ok (.irem, 1) := by decide +kernel
theorem d_mo_readsBorrowers_32 : decode prog_13_method_26_code 32 = .ok (.istore 4, 2) := by decide +kernel
theorem d_mo_readsBorrowers_34 : decode prog_13_method_26_code 34 = .ok (.iload 4, 2) := by decide +kernel
theorem d_mo_readsBorrowers_36 : decode prog_13_method_26_code 36 = .ok (.iconst 3, 1) := by decide +kernel
theorem d_mo_readsBorrowers_37 : decode prog_13_method_26_code 37 = .ok (.if_icmp .ne 17, 3) := by decide +kernel
theorem d_mo_readsBorrowers_40 : decode prog_13_method_26_code 40 = .ok (.iload_n 3, 1) := by decide +kernel
theorem d_mo_readsBorrowers_41 : decode prog_13_method_26_code 41 = .ok (.bipush 59, 2) := by decide +kernel
theorem d_mo_readsBorrowers_43 : decode prog_13_method_26_code 43 = .ok (.if_icmp .ne 7, 3) := by decide +kernel
theorem d_mo_readsBorrowers_46 : decode prog_13_method_26_code 46 = .ok (.iconst 0, 1) := by decide +kernel
theorem d_mo_readsBorrowers_47 : decode prog_13_method_26_code 47 = .ok (.goto 42, 3) := by decide +kernel
theorem d_mo_readsBorrowers_50 : decode prog_13_method_26_code 50 = .ok (.iconst (-1), 1) := by decide +kernel
theorem d_mo_readsBorrowers_51 : decode prog_13_method_26_code 51 = .ok (.goto 38, 3) := by decide +kernel
theorem d_mo_readsBorrowers_54 : decode prog_13_method_26_code 54 = .ok (.iload 4, 2) := by decide +kernel
theorem d_mo_readsBorrowers_56 : decode prog_13_method_26_code 56 = .ok (.iconst 1, 1) := by decide +kernel
theorem d_mo_readsBorrowers_57 : decode prog_13_method_26_code 57 = .ok (.if_icmp .ne 10, 3) := by decide +kernel
theorem d_mo_readsBorrowers_60 : decode prog_13_method_26_code 60 = .ok (.iload_n 3, 1) := by decide +kernel
theorem d_mo_readsBorrowers_61 : decode prog_13_method_26_code 61 = .ok (.invokestatic 125, 3) := by decide +kernel
theorem d_mo_readsBorrowers_64 : decode prog_13_method_26_code 64 = .ok (.goto 25, 3) := by decide +kernel
theorem d_mo_readsBorrowers_67 : decode prog_13_method_26_code 67 = .ok (.iload_n 3, 1) := by decide +kernel
theorem d_mo_readsBorrowers_68 : decode prog_13_method_26_code 68 = .ok (.i2l, 1) := by decide +kernel
theorem d_mo_readsBorrowers_69 : decode prog_13_method_26_code 69 = .ok (.ldc2_w 118, 3) := by decide +kernel
theorem d_mo_readsBorrowers_72 : decode prog_13_method_26_code 72 = .ok (.ldc2_w 120, 3) := by decide +kernel
theorem d_mo_readsBorrowers_75 : decode prog_13_method_26_code 75 = .ok (.invokestatic 79, 3) := by decide +kernel
theorem d_mo_readsBorrowers_78 : decode prog_13_method_26_code 78 = .ok (.ifCond .eq 10, 3) := by decide +kernel
theorem d_mo_readsBorrowers_81 : decode prog_13_method_26_code 81 = .ok (.iload_n 3, 1) := by decide +kernel
theorem d_mo_readsBorrowers_82 : decode prog_13_method_26_code 82 = .ok (.bipush 97, 2) := by decide +kernel
theorem d_mo_readsBorrowers_84 : decode prog_13_method_26_code 84 = .ok (.isub, 1) := by decide +kernel
theorem d_mo_readsBorrowers_85 : decode prog_13_method_26_code 85 = .ok (.goto 4, 3) := by decide +kernel
theorem d_mo_readsBorrowers_88 : decode prog_13_method_26_code 88 = .ok (.iconst (-1), 1) := by decide +kernel
theorem d_mo_readsBorrowers_89 : decode prog_13_method_26_code 89 = .ok (.istore 5, 2) := by decide +kernel
theorem d_mo_readsBorrowers_91 : decode prog_13_method_26_code 91 = .ok (.iload 5, 2) := by decide +kernel
theorem d_mo_readsBorrowers_93 : decode prog_13_method_26_code 93 = .ok (.iconst (-1), 1) := by decide +kernel
theorem d_mo_readsBorrowers_94 : decode prog_13_method_26_code 94 = .ok (.if_icmp .eq 9, 3) := by decide +kernel
theorem d_mo_readsBorrowers_97 : decode prog_13_method_26_code 97 = .ok (.iload_n 2, 1) := by decide +kernel
theorem d_mo_readsBorrowers_98 : decode prog_13_method_26_code 98 = .ok (.bipush 24, 2) := by decide +kernel
theorem d_mo_readsBorrowers_100 : decode prog_13_method_26_code 100 = .ok (.if_icmp .ne 10, 3) := by decide +kernel
theorem d_mo_readsBorrowers_103 : decode prog_13_method_26_code 103 = .ok (.aload_n 0, 1) := by decide +kernel
theorem d_mo_readsBorrowers_104 : decode prog_13_method_26_code 104 = .ok (.iconst 0, 1) := by decide +kernel
theorem d_mo_readsBorrowers_105 : decode prog_13_method_26_code 105 = .ok (.putfield 122, 3) := by decide +kernel
theorem d_mo_readsBorrowers_108 : decode prog_13_method_26_code 108 = .ok (.iload_n 2, 1) := by decide +kernel
theorem d_mo_readsBorrowers_109 : decode prog_13_method_26_code 109 = .ok (.ireturn, 1) := by decide +kernel
theorem d_mo_readsBorrowers_110 : decode prog_13_method_26_code 110 = .ok (.iload 4, 2) := by decide +kernel
theorem d_mo_readsBorrowers_112 : decode prog_13_method_26_code 112 = .ok (.iconst 3, 1) := by decide +kernel
theorem d_mo_readsBorrowers_113 : decode prog_13_method_26_code 113 = .ok (.if_icmp .ge 18, 3) := by decide +kernel
theorem d_mo_readsBorrowers_116 : decode prog_13_method_26_code 116 = .ok (.aload_n 0, 1) := by decide +kernel
theorem d_mo_readsBorrowers_117 : decode prog_13_method_26_code 117 = .ok (.getfield 34, 3) := by decide +kernel
theorem d_mo_readsBorrowers_120 : decode prog_13_method_26_code 120 = .ok (.iconst 3, 1) := by decide +kernel
theorem d_mo_readsBorrowers_121 : decode prog_13_method_26_code 121 = .ok (.iload_n 2, 1) := by decide +kernel
theorem d_mo_readsBorrowers_122 : decode prog_13_method_26_code 122 = .ok (.iconst 4, 1) := by decide +kernel
theorem d_mo_readsBorrowers_123 : decode prog_13_method_26_code 123 = .ok (.idiv, 1) := by decide +kernel
theorem d_mo_readsBorrowers_124 : decode prog_13_method_26_code 124 = .ok (.imul, 1) := by decide +kernel
theorem d_mo_readsBorrowers_125 : decode prog_13_method_26_code 125 = .ok (.iload 4, 2) := by decide +kernel
theorem d_mo_readsBorrowers_127 : decode prog_13_method_26_code 127 = .ok (.iadd, 1) := by decide +kernel
theorem d_mo_readsBorrowers_128 : decode prog_13_method_26_code 128 = .ok (.iload 5, 2) := by decide +kernel
theorem d_mo_readsBorrowers_130 : decode prog_13_method_26_code 130 = .ok (.iastore, 1) := by decide +kernel
theorem d_mo_readsBorrowers_131 : decode prog_13_method_26_code 131 = .ok (.aload_n 0, 1) := by decide +kernel
theorem d_mo_readsBorrowers_132 : decode prog_13_method_26_code 132 = .ok (.dup, 1) := by decide +kernel
theorem d_mo_readsBorrowers_133 : decode prog_13_method_26_code 133 = .ok (.getfield 122, 3) := by decide +kernel
theorem d_mo_readsBorrowers_136 : decode prog_13_method_26_code 136 = .ok (.iload 4, 2) := by decide +kernel
theorem d_mo_readsBorrowers_138 : decode prog_13_method_26_code 138 = .ok (.iconst 2, 1) := by decide +kernel
theorem d_mo_readsBorrowers_139 : decode prog_13_method_26_code 139 = .ok (.if_icmp .ne 7, 3) := by decide +kernel
theorem d_mo_readsBorrowers_142 : decode prog_13_method_26_code 142 = .ok (.iconst 1, 1) := by decide +kernel
theorem d_mo_readsBorrowers_143 : decode prog_13_method_26_code 143 = .ok (.goto 4, 3) := by decide +kernel
theorem d_mo_readsBorrowers_146 : decode prog_13_method_26_code 146 = .ok (.iconst 0, 1) := by decide +kernel
theorem d_mo_readsBorrowers_147 : decode prog_13_method_26_code 147 = .ok (.iadd, 1) := by decide +kernel
theorem d_mo_readsBorrowers_148 : decode prog_13_method_26_code 148 = .ok (.putfield 122, 3) := by decide +kernel
theorem d_mo_readsBorrowers_151 : decode prog_13_method_26_code 151 = .ok (.iinc 2 1, 3) := by decide +kernel
theorem d_mo_readsBorrowers_154 : decode prog_13_method_26_code 154 = .ok (.goto (-140), 3) := by decide +kernel
theorem d_mo_readsBorrowers_157 : decode prog_13_method_26_code 157 = .ok (.iload_n 1, 1) := by decide +kernel
theorem d_mo_readsBorrowers_158 : decode prog_13_method_26_code 158 = .ok (.iconst 4, 1) := by decide +kernel
theorem d_mo_readsBorrowers_159 : decode prog_13_method_26_code 159 = .ok (.irem, 1) := by decide +kernel
theorem d_mo_readsBorrowers_160 : decode prog_13_method_26_code 160 = .ok (.iconst 3, 1) := by decide +kernel
theorem d_mo_readsBorrowers_161 : decode prog_13_method_26_code 161 = .ok (.if_icmp .eq 14, 3) := by decide +kernel
theorem d_mo_readsBorrowers_164 : decode prog_13_method_26_code 164 = .ok (.iload_n 1, 1) := by decide +kernel
theorem d_mo_readsBorrowers_165 : decode prog_13_method_26_code 165 = .ok (.ifCond .le 10, 3) := by decide +kernel
theorem d_mo_readsBorrowers_168 : decode prog_13_method_26_code 168 = .ok (.aload_n 0, 1) := by decide +kernel
theorem d_mo_readsBorrowers_169 : decode prog_13_method_26_code 169 = .ok (.iconst 0, 1) := by decide +kernel
theorem d_mo_readsBorrowers_170 : decode prog_13_method_26_code 170 = .ok (.putfield 122, 3) := by decide +kernel
theorem d_mo_readsBorrowers_173 : decode prog_13_method_26_code 173 = .ok (.iload_n 1, 1) := by decide +kernel
theorem d_mo_readsBorrowers_174 : decode prog_13_method_26_code 174 = .ok (.ireturn, 1) := by decide +kernel
theorem d_mo_readsBorrowers_175 : decode prog_13_method_26_code 175 = .ok (.iconst (-1), 1) := by decide +kernel
theorem d_mo_readsBorrowers_176 : decode prog_13_method_26_code 176 = .ok (.ireturn, 1) := by decide +kernel
theorem d_mo_reads_0 : decode prog_13_method_27_code 0 = .ok (.aload_n 0, 1) := by decide +kernel
theorem d_mo_reads_1 : decode prog_13_method_27_code 1 = .ok (.invokevirtual 128, 3) := by decide +kernel
theorem d_mo_reads_4 : decode prog_13_method_27_code 4 = .ok (.pop, 1) := by decide +kernel
theorem d_mo_reads_5 : decode prog_13_method_27_code 5 = .ok (.aload_n 0, 1) := by decide +kernel
theorem d_mo_reads_6 : decode prog_13_method_27_code 6 = .ok (.invokevirtual 132, 3) := by decide +kernel
theorem d_mo_reads_9 : decode prog_13_method_27_code 9 = .ok (.pop, 1) := by decide +kernel
theorem d_mo_reads_10 : decode prog_13_method_27_code 10 = .ok (.return_, 1) := by decide +kernel
theorem d_mo_fault_0 : decode prog_13_method_28_code 0 = .ok (.iload_n 1, 1) := by decide +kernel
theorem d_mo_fault_1 : decode prog_13_method_28_code 1 = .ok (.invokestatic 107, 3) := by decide +kernel
theorem d_mo_fault_4 : decode prog_13_method_28_code 4 = .ok (.ifCond .ne 8, 3) := by decide +kernel
theorem d_mo_fault_7 : decode prog_13_method_28_code 7 = .ok (.bipush (-2), 2) := by decide +kernel
theorem d_mo_fault_9 : decode prog_13_method_28_code 9 = .ok (.goto 18, 3) := by decide +kernel
theorem d_mo_fault_12 : decode prog_13_method_28_code 12 = .ok (.iload_n 1, 1) := by decide +kernel
theorem d_mo_fault_13 : decode prog_13_method_28_code 13 = .ok (.ifCond .ne 10, 3) := by decide +kernel
theorem d_mo_fault_16 : decode prog_13_method_28_code 16 = .ok (.aload_n 0, 1) := by decide +kernel
theorem d_mo_fault_17 : decode prog_13_method_28_code 17 = .ok (.invokevirtual 128, 3) := by decide +kernel
theorem d_mo_fault_20 : decode prog_13_method_28_code 20 = .ok (.goto 7, 3) := by decide +kernel
theorem d_mo_fault_23 : decode prog_13_method_28_code 23 = .ok (.aload_n 0, 1) := by decide +kernel
theorem d_mo_fault_24 : decode prog_13_method_28_code 24 = .ok (.invokevirtual 132, 3) := by decide +kernel
theorem d_mo_fault_27 : decode prog_13_method_28_code 27 = .ok (.ireturn, 1) := by decide +kernel
theorem d_mo_isTune_0 : decode prog_13_method_29_code 0 = .ok (.iload_n 1, 1) := by decide +kernel
theorem d_mo_isTune_1 : decode prog_13_method_29_code 1 = .ok (.i2l, 1) := by decide +kernel
theorem d_mo_isTune_2 : decode prog_13_method_29_code 2 = .ok (.lconst 0, 1) := by decide +kernel
theorem d_mo_isTune_3 : decode prog_13_method_29_code 3 = .ok (.aload_n 0, 1) := by decide +kernel
theorem d_mo_isTune_4 : decode prog_13_method_29_code 4 = .ok (.getfield 112, 3) := by decide +kernel
theorem d_mo_isTune_7 : decode prog_13_method_29_code 7 = .ok (.iconst 1, 1) := by decide +kernel
theorem d_mo_isTune_8 : decode prog_13_method_29_code 8 = .ok (.isub, 1) := by decide +kernel
theorem d_mo_isTune_9 : decode prog_13_method_29_code 9 = .ok (.i2l, 1) := by decide +kernel
theorem d_mo_isTune_10 : decode prog_13_method_29_code 10 = .ok (.invokestatic 79, 3) := by decide +kernel
theorem d_mo_isTune_13 : decode prog_13_method_29_code 13 = .ok (.ireturn, 1) := by decide +kernel
theorem d_mo_isBorrower_0 : decode prog_13_method_30_code 0 = .ok (.iload_n 1, 1) := by decide +kernel
theorem d_mo_isBorrower_1 : decode prog_13_method_30_code 1 = .ok (.i2l, 1) := by decide +kernel
theorem d_mo_isBorrower_2 : decode prog_13_method_30_code 2 = .ok (.lconst 0, 1) := by decide +kernel
theorem d_mo_isBorrower_3 : decode prog_13_method_30_code 3 = .ok (.aload_n 0, 1) := by decide +kernel
theorem d_mo_isBorrower_4 : decode prog_13_method_30_code 4 = .ok (.getfield 122, 3) := by decide +kernel
theorem d_mo_isBorrower_7 : decode prog_13_method_30_code 7 = .ok (.iconst 1, 1) := by decide +kernel
theorem d_mo_isBorrower_8 : decode prog_13_method_30_code 8 = .ok (.isub, 1) := by decide +kernel
theorem d_mo_isBorrower_9 : decode prog_13_method_30_code 9 = .ok (.i2l, 1) := by decide +kernel
theorem d_mo_isBorrower_10 : decode prog_13_method_30_code 10 = .ok (.invokestatic 79, 3) := by decide +kernel
theorem d_mo_isBorrower_13 : decode prog_13_method_30_code 13 = .ok (.ireturn, 1) := by decide +kernel
theorem d_mo_isYear_0 : decode prog_13_method_31_code 0 = .ok (.iload_n 0, 1) := by decide +kernel
theorem d_mo_isYear_1 : decode prog_13_method_31_code 1 = .ok (.i2l, 1) := by decide +kernel
theorem d_mo_isYear_2 : decode prog_13_method_31_code 2 = .ok (.lconst 0, 1) := by decide +kernel
theorem d_mo_isYear_3 : decode prog_13_method_31_code 3 = .ok (.ldc2_w 135, 3) := by decide +kernel
theorem d_mo_isYear_6 : decode prog_13_method_31_code 6 = .ok (.invokestatic 79, 3) := by decide +kernel
theorem d_mo_isYear_9 : decode prog_13_method_31_code 9 = .ok (.ireturn, 1) := by decide +kernel
theorem d_mo_tune_0 : decode prog_13_method_32_code 0 = .ok (.aload_n 0, 1) := by decide +kernel
theorem d_mo_tune_1 : decode prog_13_method_32_code 1 = .ok (.invokevirtual 137, 3) := by decide +kernel
theorem d_mo_tune_4 : decode prog_13_method_32_code 4 = .ok (.aload_n 0, 1) := by decide +kernel
theorem d_mo_tune_5 : decode prog_13_method_32_code 5 = .ok (.iload_n 1, 1) := by decide +kernel
theorem d_mo_tune_6 : decode prog_13_method_32_code 6 = .ok (.invokevirtual 140, 3) := by decide +kernel
theorem d_mo_tune_9 : decode prog_13_method_32_code 9 = .ok (.ifCond .eq 17, 3) := by decide +kernel
theorem d_mo_tune_12 : decode prog_13_method_32_code 12 = .ok (.iload_n 2, 1) := by decide +kernel
theorem d_mo_tune_13 : decode prog_13_method_32_code 13 = .ok (.i2l, 1) := by decide +kernel
theorem d_mo_tune_14 : decode prog_13_method_32_code 14 = .ok (.ldc2_w 143, 3) := by decide +kernel
theorem d_mo_tune_17 : decode prog_13_method_32_code 17 = .ok (.ldc2_w 145, 3) := by decide +kernel
theorem d_mo_tune_20 : decode prog_13_method_32_code 20 = .ok (.invokestatic 79, 3) := by decide +kernel
theorem d_mo_tune_23 : decode prog_13_method_32_code 23 = .ok (.ifCond .ne 8, 3) := by decide +kernel
theorem d_mo_tune_26 : decode prog_13_method_32_code 26 = .ok (.bipush (-2), 2) := by decide +kernel
theorem d_mo_tune_28 : decode prog_13_method_32_code 28 = .ok (.goto 42, 3) := by decide +kernel
theorem d_mo_tune_31 : decode prog_13_method_32_code 31 = .ok (.iload_n 2, 1) := by decide +kernel
theorem d_mo_tune_32 : decode prog_13_method_32_code 32 = .ok (.iconst (-1), 1) := by decide +kernel
theorem d_mo_tune_33 : decode prog_13_method_32_code 33 = .ok (.if_icmp .ne 12, 3) := by decide +kernel
theorem d_mo_tune_36 : decode prog_13_method_32_code 36 = .ok (.aload_n 0, 1) := by decide +kernel
theorem d_mo_tune_37 : decode prog_13_method_32_code 37 = .ok (.getfield 31, 3) := by decide +kernel
theorem d_mo_tune_40 : decode prog_13_method_32_code 40 = .ok (.iload_n 1, 1) := by decide +kernel
theorem d_mo_tune_41 : decode prog_13_method_32_code 41 = .ok (.iaload, 1) := by decide +kernel
theorem d_mo_tune_42 : decode prog_13_method_32_code 42 = .ok (.goto 28, 3) := by decide +kernel
theorem d_mo_tune_45 : decode prog_13_method_32_code 45 = .ok (.iload_n 2, 1) := by decide +kernel
theorem d_mo_tune_46 : decode prog_13_method_32_code 46 = .ok (.aload_n 0, 1) := by decide +kernel
theorem d_mo_tune_47 : decode prog_13_method_32_code 47 = .ok (.getfield 31, 3) := by decide +kernel
theorem d_mo_tune_50 : decode prog_13_method_32_code 50 = .ok (.iload_n 1, 1) := by decide +kernel
theorem d_mo_tune_51 : decode prog_13_method_32_code 51 = .ok (.iaload, 1) := by decide +kernel
theorem d_mo_tune_52 : decode prog_13_method_32_code 52 = .ok (.if_icmp .ge 17, 3) := by decide +kernel
theorem d_mo_tune_55 : decode prog_13_method_32_code 55 = .ok (.aload_n 0, 1) := by decide +kernel
theorem d_mo_tune_56 : decode prog_13_method_32_code 56 = .ok (.getfield 28, 3) := by decide +kernel
theorem d_mo_tune_59 : decode prog_13_method_32_code 59 = .ok (.bipush 40, 2) := by decide +kernel
theorem d_mo_tune_61 : decode prog_13_method_32_code 61 = .ok (.iload_n 1, 1) := by decide +kernel
theorem d_mo_tune_62 : decode prog_13_method_32_code 62 = .ok (.imul, 1) := by decide +kernel
theorem d_mo_tune_63 : decode prog_13_method_32_code 63 = .ok (.iload_n 2, 1) := by decide +kernel
theorem d_mo_tune_64 : decode prog_13_method_32_code 64 = .ok (.iadd, 1) := by decide +kernel
theorem d_mo_tune_65 : decode prog_13_method_32_code 65 = .ok (.iaload, 1) := by decide +kernel
theorem d_mo_tune_66 : decode prog_13_method_32_code 66 = .ok (.goto 4, 3) := by decide +kernel
theorem d_mo_tune_69 : decode prog_13_method_32_code 69 = .ok (.iconst (-1), 1) := by decide +kernel
theorem d_mo_tune_70 : decode prog_13_method_32_code 70 = .ok (.ireturn, 1) := by decide +kernel
theorem d_mo_borrower_0 : decode prog_13_method_33_code 0 = .ok (.aload_n 0, 1) := by decide +kernel
theorem d_mo_borrower_1 : decode prog_13_method_33_code 1 = .ok (.invokevirtual 137, 3) := by decide +kernel
theorem d_mo_borrower_4 : decode prog_13_method_33_code 4 = .ok (.aload_n 0, 1) := by decide +kernel
theorem d_mo_borrower_5 : decode prog_13_method_33_code 5 = .ok (.iload_n 1, 1) := by decide +kernel
theorem d_mo_borrower_6 : decode prog_13_method_33_code 6 = .ok (.invokevirtual 147, 3) := by decide +kernel
theorem d_mo_borrower_9 : decode prog_13_method_33_code 9 = .ok (.ifCond .eq 28, 3) := by decide +kernel
theorem d_mo_borrower_12 : decode prog_13_method_33_code 12 = .ok (.iload_n 2, 1) := by decide +kernel
theorem d_mo_borrower_13 : decode prog_13_method_33_code 13 = .ok (.i2l, 1) := by decide +kernel
theorem d_mo_borrower_14 : decode prog_13_method_33_code 14 = .ok (.lconst 0, 1) := by decide +kernel
theorem d_mo_borrower_15 : decode prog_13_method_33_code 15 = .ok (.ldc2_w 92, 3) := by decide +kernel
theorem d_mo_borrower_18 : decode prog_13_method_33_code 18 = .ok (.invokestatic 79, 3) := by decide +kernel
theorem d_mo_borrower_21 : decode prog_13_method_33_code 21 = .ok (.ifCond .eq 16, 3) := by decide +kernel
theorem d_mo_borrower_24 : decode prog_13_method_33_code 24 = .ok (.aload_n 0, 1) := by decide +kernel
theorem d_mo_borrower_25 : decode prog_13_method_33_code 25 = .ok (.getfield 34, 3) := by decide +kernel
theorem d_mo_borrower_28 : decode prog_13_method_33_code 28 = .ok (.iconst 3, 1) := by decide +kernel
theorem d_mo_borrower_29 : decode prog_13_method_33_code 29 = .ok (.iload_n 1, 1) := by decide +kernel
theorem d_mo_borrower_30 : decode prog_13_method_33_code 30 = .ok (.imul, 1) := by decide +kernel
theorem d_mo_borrower_31 : decode prog_13_method_33_code 31 = .ok (.iload_n 2, 1) := by decide +kernel
theorem d_mo_borrower_32 : decode prog_13_method_33_code 32 = .ok (.iadd, 1) := by decide +kernel
theorem d_mo_borrower_33 : decode prog_13_method_33_code 33 = .ok (.iaload, 1) := by decide +kernel
theorem d_mo_borrower_34 : decode prog_13_method_33_code 34 = .ok (.goto 5, 3) := by decide +kernel
theorem d_mo_borrower_37 : decode prog_13_method_33_code 37 = .ok (.bipush (-2), 2) := by decide +kernel
theorem d_mo_borrower_39 : decode prog_13_method_33_code 39 = .ok (.ireturn, 1) := by decide +kernel
theorem d_mo_loan_0 : decode prog_13_method_34_code 0 = .ok (.iload_n 1, 1) := by decide +kernel
theorem d_mo_loan_1 : decode prog_13_method_34_code 1 = .ok (.invokestatic 150, 3) := by decide +kernel
theorem d_mo_loan_4 : decode prog_13_method_34_code 4 = .ok (.ifCond .eq 40, 3) := by decide +kernel
theorem d_mo_loan_7 : decode prog_13_method_34_code 7 = .ok (.iload_n 2, 1) := by decide +kernel
theorem d_mo_loan_8 : decode prog_13_method_34_code 8 = .ok (.i2l, 1) := by decide +kernel
theorem d_mo_loan_9 : decode prog_13_method_34_code 9 = .ok (.lconst 0, 1) := by decide +kernel
theorem d_mo_loan_10 : decode prog_13_method_34_code 10 = .ok (.ldc2_w 153, 3) := by decide +kernel
theorem d_mo_loan_13 : decode prog_13_method_34_code 13 = .ok (.invokestatic 79, 3) := by decide +kernel
theorem d_mo_loan_16 : decode prog_13_method_34_code 16 = .ok (.ifCond .eq 28, 3) := by decide +kernel
theorem d_mo_loan_19 : decode prog_13_method_34_code 19 = .ok (.iload_n 3, 1) := by decide +kernel
theorem d_mo_loan_20 : decode prog_13_method_34_code 20 = .ok (.i2l, 1) := by decide +kernel
theorem d_mo_loan_21 : decode prog_13_method_34_code 21 = .ok (.lconst 0, 1) := by decide +kernel
theorem d_mo_loan_22 : decode prog_13_method_34_code 22 = .ok (.ldc2_w 153, 3) := by decide +kernel
theorem d_mo_loan_25 : decode prog_13_method_34_code 25 = .ok (.invokestatic 79, 3) := by decide +kernel
theorem d_mo_loan_28 : decode prog_13_method_34_code 28 = .ok (.ifCond .eq 16, 3) := by decide +kernel
theorem d_mo_loan_31 : decode prog_13_method_34_code 31 = .ok (.iload 4, 2) := by decide +kernel
theorem d_mo_loan_33 : decode prog_13_method_34_code 33 = .ok (.i2l, 1) := by decide +kernel
theorem d_mo_loan_34 : decode prog_13_method_34_code 34 = .ok (.lconst 1, 1) := by decide +kernel
theorem d_mo_loan_35 : decode prog_13_method_34_code 35 = .ok (.ldc2_w 155, 3) := by decide +kernel
theorem d_mo_loan_38 : decode prog_13_method_34_code 38 = .ok (.invokestatic 79, 3) := by decide +kernel
theorem d_mo_loan_41 : decode prog_13_method_34_code 41 = .ok (.ifCond .ne 6, 3) := by decide +kernel
theorem d_mo_loan_44 : decode prog_13_method_34_code 44 = .ok (.bipush (-2), 2) := by decide +kernel
theorem d_mo_loan_46 : decode prog_13_method_34_code 46 = .ok (.ireturn, 1) := by decide +kernel
theorem d_mo_loan_47 : decode prog_13_method_34_code 47 = .ok (.aload_n 0, 1) := by decide +kernel
theorem d_mo_loan_48 : decode prog_13_method_34_code 48 = .ok (.getfield 157, 3) := by decide +kernel
theorem d_mo_loan_51 : decode prog_13_method_34_code 51 = .ok (.bipush 12, 2) := by decide +kernel
theorem d_mo_loan_53 : decode prog_13_method_34_code 53 = .ok (.if_icmp .ne 6, 3) := by decide +kernel
theorem d_mo_loan_56 : decode prog_13_method_34_code 56 = .ok (.bipush (-4), 2) := by decide +kernel
theorem d_mo_loan_58 : decode prog_13_method_34_code 58 = .ok (.ireturn, 1) := by decide +kernel
theorem d_mo_loan_59 : decode prog_13_method_34_code 59 = .ok (.aload_n 0, 1) := by decide +kernel
theorem d_mo_loan_60 : decode prog_13_method_34_code 60 = .ok (.getfield 37, 3) := by decide +kernel
theorem d_mo_loan_63 : decode prog_13_method_34_code 63 = .ok (.iconst 4, 1) := by decide +kernel
theorem d_mo_loan_64 : decode prog_13_method_34_code 64 = .ok (.aload_n 0, 1) := by decide +kernel
theorem d_mo_loan_65 : decode prog_13_method_34_code 65 = .ok (.getfield 157, 3) := by decide +kernel
theorem d_mo_loan_68 : decode prog_13_method_34_code 68 = .ok (.imul, 1) := by decide +kernel
theorem d_mo_loan_69 : decode prog_13_method_34_code 69 = .ok (.iload_n 1, 1) := by decide +kernel
theorem d_mo_loan_70 : decode prog_13_method_34_code 70 = .ok (.iastore, 1) := by decide +kernel
theorem d_mo_loan_71 : decode prog_13_method_34_code 71 = .ok (.aload_n 0, 1) := by decide +kernel
theorem d_mo_loan_72 : decode prog_13_method_34_code 72 = .ok (.getfield 37, 3) := by decide +kernel
theorem d_mo_loan_75 : decode prog_13_method_34_code 75 = .ok (.iconst 4, 1) := by decide +kernel
theorem d_mo_loan_76 : decode prog_13_method_34_code 76 = .ok (.aload_n 0, 1) := by decide +kernel
theorem d_mo_loan_77 : decode prog_13_method_34_code 77 = .ok (.getfield 157, 3) := by decide +kernel
theorem d_mo_loan_80 : decode prog_13_method_34_code 80 = .ok (.imul, 1) := by decide +kernel
theorem d_mo_loan_81 : decode prog_13_method_34_code 81 = .ok (.iconst 1, 1) := by decide +kernel
theorem d_mo_loan_82 : decode prog_13_method_34_code 82 = .ok (.iadd, 1) := by decide +kernel
theorem d_mo_loan_83 : decode prog_13_method_34_code 83 = .ok (.iload_n 2, 1) := by decide +kernel
theorem d_mo_loan_84 : decode prog_13_method_34_code 84 = .ok (.iastore, 1) := by decide +kernel
theorem d_mo_loan_85 : decode prog_13_method_34_code 85 = .ok (.aload_n 0, 1) := by decide +kernel
theorem d_mo_loan_86 : decode prog_13_method_34_code 86 = .ok (.getfield 37, 3) := by decide +kernel
theorem d_mo_loan_89 : decode prog_13_method_34_code 89 = .ok (.iconst 4, 1) := by decide +kernel
theorem d_mo_loan_90 : decode prog_13_method_34_code 90 = .ok (.aload_n 0, 1) := by decide +kernel
theorem d_mo_loan_91 : decode prog_13_method_34_code 91 = .ok (.getfield 157, 3) := by decide +kernel
theorem d_mo_loan_94 : decode prog_13_method_34_code 94 = .ok (.imul, 1) := by decide +kernel
theorem d_mo_loan_95 : decode prog_13_method_34_code 95 = .ok (.iconst 2, 1) := by decide +kernel
theorem d_mo_loan_96 : decode prog_13_method_34_code 96 = .ok (.iadd, 1) := by decide +kernel
theorem d_mo_loan_97 : decode prog_13_method_34_code 97 = .ok (.iload_n 3, 1) := by decide +kernel
theorem d_mo_loan_98 : decode prog_13_method_34_code 98 = .ok (.iastore, 1) := by decide +kernel
theorem d_mo_loan_99 : decode prog_13_method_34_code 99 = .ok (.aload_n 0, 1) := by decide +kernel
theorem d_mo_loan_100 : decode prog_13_method_34_code 100 = .ok (.getfield 37, 3) := by decide +kernel
theorem d_mo_loan_103 : decode prog_13_method_34_code 103 = .ok (.iconst 4, 1) := by decide +kernel
theorem d_mo_loan_104 : decode prog_13_method_34_code 104 = .ok (.aload_n 0, 1) := by decide +kernel
theorem d_mo_loan_105 : decode prog_13_method_34_code 105 = .ok (.getfield 157, 3) := by decide +kernel
theorem d_mo_loan_108 : decode prog_13_method_34_code 108 = .ok (.imul, 1) := by decide +kernel
theorem d_mo_loan_109 : decode prog_13_method_34_code 109 = .ok (.iconst 3, 1) := by decide +kernel
theorem d_mo_loan_110 : decode prog_13_method_34_code 110 = .ok (.iadd, 1) := by decide +kernel
theorem d_mo_loan_111 : decode prog_13_method_34_code 111 = .ok (.iload 4, 2) := by decide +kernel
theorem d_mo_loan_113 : decode prog_13_method_34_code 113 = .ok (.iastore, 1) := by decide +kernel
theorem d_mo_loan_114 : decode prog_13_method_34_code 114 = .ok (.aload_n 0, 1) := by decide +kernel
theorem d_mo_loan_115 : decode prog_13_method_34_code 115 = .ok (.dup, 1) := by decide +kernel
theorem d_mo_loan_116 : decode prog_13_method_34_code 116 = .ok (.getfield 157, 3) := by decide +kernel
theorem d_mo_loan_119 : decode prog_13_method_34_code 119 = .ok (.iconst 1, 1) := by decide +kernel
theorem d_mo_loan_120 : decode prog_13_method_34_code 120 = .ok (.iadd, 1) := by decide +kernel
theorem d_mo_loan_121 : decode prog_13_method_34_code 121 = .ok (.putfield 157, 3) := by decide +kernel
theorem d_mo_loan_124 : decode prog_13_method_34_code 124 = .ok (.aload_n 0, 1) := by decide +kernel
theorem d_mo_loan_125 : decode prog_13_method_34_code 125 = .ok (.getfield 157, 3) := by decide +kernel
theorem d_mo_loan_128 : decode prog_13_method_34_code 128 = .ok (.ireturn, 1) := by decide +kernel
theorem d_mo_back_0 : decode prog_13_method_35_code 0 = .ok (.aload_n 0, 1) := by decide +kernel
theorem d_mo_back_1 : decode prog_13_method_35_code 1 = .ok (.getfield 157, 3) := by decide +kernel
theorem d_mo_back_4 : decode prog_13_method_35_code 4 = .ok (.ifCond .ne 6, 3) := by decide +kernel
theorem d_mo_back_7 : decode prog_13_method_35_code 7 = .ok (.bipush (-3), 2) := by decide +kernel
theorem d_mo_back_9 : decode prog_13_method_35_code 9 = .ok (.ireturn, 1) := by decide +kernel
theorem d_mo_back_10 : decode prog_13_method_35_code 10 = .ok (.aload_n 0, 1) := by decide +kernel
theorem d_mo_back_11 : decode prog_13_method_35_code 11 = .ok (.dup, 1) := by decide +kernel
theorem d_mo_back_12 : decode prog_13_method_35_code 12 = .ok (.getfield 157, 3) := by decide +kernel
theorem d_mo_back_15 : decode prog_13_method_35_code 15 = .ok (.iconst 1, 1) := by decide +kernel
theorem d_mo_back_16 : decode prog_13_method_35_code 16 = .ok (.isub, 1) := by decide +kernel
theorem d_mo_back_17 : decode prog_13_method_35_code 17 = .ok (.putfield 157, 3) := by decide +kernel
theorem d_mo_back_20 : decode prog_13_method_35_code 20 = .ok (.aload_n 0, 1) := by decide +kernel
theorem d_mo_back_21 : decode prog_13_method_35_code 21 = .ok (.getfield 157, 3) := by decide +kernel
theorem d_mo_back_24 : decode prog_13_method_35_code 24 = .ok (.ireturn, 1) := by decide +kernel
theorem d_mo_read_0 : decode prog_13_method_36_code 0 = .ok (.iload_n 1, 1) := by decide +kernel
theorem d_mo_read_1 : decode prog_13_method_36_code 1 = .ok (.invokestatic 88, 3) := by decide +kernel
theorem d_mo_read_4 : decode prog_13_method_36_code 4 = .ok (.ifCond .ne 6, 3) := by decide +kernel
theorem d_mo_read_7 : decode prog_13_method_36_code 7 = .ok (.bipush (-2), 2) := by decide +kernel
theorem d_mo_read_9 : decode prog_13_method_36_code 9 = .ok (.ireturn, 1) := by decide +kernel
theorem d_mo_read_10 : decode prog_13_method_36_code 10 = .ok (.aload_n 0, 1) := by decide +kernel
theorem d_mo_read_11 : decode prog_13_method_36_code 11 = .ok (.getfield 7, 3) := by decide +kernel
theorem d_mo_read_14 : decode prog_13_method_36_code 14 = .ok (.iload_n 1, 1) := by decide +kernel
theorem d_mo_read_15 : decode prog_13_method_36_code 15 = .ok (.iaload, 1) := by decide +kernel
theorem d_mo_read_16 : decode prog_13_method_36_code 16 = .ok (.ifCond .ge 9, 3) := by decide +kernel
theorem d_mo_read_19 : decode prog_13_method_36_code 19 = .ok (.aload_n 0, 1) := by decide +kernel
theorem d_mo_read_20 : decode prog_13_method_36_code 20 = .ok (.iconst 1, 1) := by decide +kernel
theorem d_mo_read_21 : decode prog_13_method_36_code 21 = .ok (.invokevirtual 94, 3) := by decide +kernel
theorem d_mo_read_24 : decode prog_13_method_36_code 24 = .ok (.ireturn, 1) := by decide +kernel
theorem d_mo_read_25 : decode prog_13_method_36_code 25 = .ok (.iconst 0, 1) := by decide +kernel
theorem d_mo_read_26 : decode prog_13_method_36_code 26 = .ok (.istore_n 2, 1) := by decide +kernel
theorem d_mo_read_27 : decode prog_13_method_36_code 27 = .ok (.iconst 1, 1) := by decide +kernel
theorem d_mo_read_28 : decode prog_13_method_36_code 28 = .ok (.istore_n 3, 1) := by decide +kernel
theorem d_mo_read_29 : decode prog_13_method_36_code 29 = .ok (.iload_n 3, 1) := by decide +kernel
theorem d_mo_read_30 : decode prog_13_method_36_code 30 = .ok (.ifCond .eq 89, 3) := by decide +kernel
theorem d_mo_read_33 : decode prog_13_method_36_code 33 = .ok (.iconst 4, 1) := by decide +kernel
theorem d_mo_read_34 : decode prog_13_method_36_code 34 = .ok (.iload_n 2, 1) := by decide +kernel
theorem d_mo_read_35 : decode prog_13_method_36_code 35 = .ok (.imul, 1) := by decide +kernel
theorem d_mo_read_36 : decode prog_13_method_36_code 36 = .ok (.iconst 4, 1) := by decide +kernel
theorem d_mo_read_37 : decode prog_13_method_36_code 37 = .ok (.iadd, 1) := by decide +kernel
theorem d_mo_read_38 : decode prog_13_method_36_code 38 = .ok (.aload_n 0, 1) := by decide +kernel
theorem d_mo_read_39 : decode prog_13_method_36_code 39 = .ok (.getfield 13, 3) := by decide +kernel
theorem d_mo_read_42 : decode prog_13_method_36_code 42 = .ok (.iload_n 1, 1) := by decide +kernel
theorem d_mo_read_43 : decode prog_13_method_36_code 43 = .ok (.iaload, 1) := by decide +kernel
theorem d_mo_read_44 : decode prog_13_method_36_code 44 = .ok (.if_icmp .gt 75, 3) := by decide +kernel
theorem d_mo_read_47 : decode prog_13_method_36_code 47 = .ok (.bipush 60, 2) := by decide +kernel
theorem d_mo_read_49 : decode prog_13_method_36_code 49 = .ok (.iload_n 1, 1) := by decide +kernel
theorem d_mo_read_50 : decode prog_13_method_36_code 50 = .ok (.imul, 1) := by decide +kernel
theorem d_mo_read_51 : decode prog_13_method_36_code 51 = .ok (.iconst 4, 1) := by decide +kernel
theorem d_mo_read_52 : decode prog_13_method_36_code 52 = .ok (.iload_n 2, 1) := by decide +kernel
theorem d_mo_read_53 : decode prog_13_method_36_code 53 = .ok (.imul, 1) := by decide +kernel
theorem d_mo_read_54 : decode prog_13_method_36_code 54 = .ok (.iadd, 1) := by decide +kernel
theorem d_mo_read_55 : decode prog_13_method_36_code 55 = .ok (.istore 4, 2) := by decide +kernel
theorem d_mo_read_57 : decode prog_13_method_36_code 57 = .ok (.aload_n 0, 1) := by decide +kernel
theorem d_mo_read_58 : decode prog_13_method_36_code 58 = .ok (.aload_n 0, 1) := by decide +kernel
theorem d_mo_read_59 : decode prog_13_method_36_code 59 = .ok (.getfield 16, 3) := by decide +kernel
theorem d_mo_read_62 : decode prog_13_method_36_code 62 = .ok (.iload 4, 2) := by decide +kernel
theorem d_mo_read_64 : decode prog_13_method_36_code 64 = .ok (.iaload, 1) := by decide +kernel
theorem d_mo_read_65 : decode prog_13_method_36_code 65 = .ok (.aload_n 0, 1) := by decide +kernel
theorem d_mo_read_66 : decode prog_13_method_36_code 66 = .ok (.getfield 16, 3) := by decide +kernel
theorem d_mo_read_69 : decode prog_13_method_36_code 69 = .ok (.iload 4, 2) := by decide +kernel
theorem d_mo_read_71 : decode prog_13_method_36_code 71 = .ok (.iconst 1, 1) := by decide +kernel
theorem d_mo_read_72 : decode prog_13_method_36_code 72 = .ok (.iadd, 1) := by decide +kernel
theorem d_mo_read_73 : decode prog_13_method_36_code 73 = .ok (.iaload, 1) := by decide +kernel
theorem d_mo_read_74 : decode prog_13_method_36_code 74 = .ok (.aload_n 0, 1) := by decide +kernel
theorem d_mo_read_75 : decode prog_13_method_36_code 75 = .ok (.getfield 16, 3) := by decide +kernel
theorem d_mo_read_78 : decode prog_13_method_36_code 78 = .ok (.iload 4, 2) := by decide +kernel
theorem d_mo_read_80 : decode prog_13_method_36_code 80 = .ok (.iconst 2, 1) := by decide +kernel
theorem d_mo_read_81 : decode prog_13_method_36_code 81 = .ok (.iadd, 1) := by decide +kernel
theorem d_mo_read_82 : decode prog_13_method_36_code 82 = .ok (.iaload, 1) := by decide +kernel
theorem d_mo_read_83 : decode prog_13_method_36_code 83 = .ok (.aload_n 0, 1) := by decide +kernel
theorem d_mo_read_84 : decode prog_13_method_36_code 84 = .ok (.getfield 16, 3) := by decide +kernel
theorem d_mo_read_87 : decode prog_13_method_36_code 87 = .ok (.iload 4, 2) := by decide +kernel
theorem d_mo_read_89 : decode prog_13_method_36_code 89 = .ok (.iconst 3, 1) := by decide +kernel
theorem d_mo_read_90 : decode prog_13_method_36_code 90 = .ok (.iadd, 1) := by decide +kernel
theorem d_mo_read_91 : decode prog_13_method_36_code 91 = .ok (.iaload, 1) := by decide +kernel
theorem d_mo_read_92 : decode prog_13_method_36_code 92 = .ok (.invokevirtual 160, 3) := by decide +kernel
theorem d_mo_read_95 : decode prog_13_method_36_code 95 = .ok (.ifCond .lt 7, 3) := by decide +kernel
theorem d_mo_read_98 : decode prog_13_method_36_code 98 = .ok (.iconst 1, 1) := by decide +kernel
theorem d_mo_read_99 : decode prog_13_method_36_code 99 = .ok (.goto 4, 3) := by decide +kernel
theorem d_mo_read_102 : decode prog_13_method_36_code 102 = .ok (.iconst 0, 1) := by decide +kernel
theorem d_mo_read_103 : decode prog_13_method_36_code 103 = .ok (.istore_n 3, 1) := by decide +kernel
theorem d_mo_read_104 : decode prog_13_method_36_code 104 = .ok (.iload_n 2, 1) := by decide +kernel
theorem d_mo_read_105 : decode prog_13_method_36_code 105 = .ok (.iload_n 3, 1) := by decide +kernel
theorem d_mo_read_106 : decode prog_13_method_36_code 106 = .ok (.ifCond .eq 7, 3) := by decide +kernel
theorem d_mo_read_109 : decode prog_13_method_36_code 109 = .ok (.iconst 1, 1) := by decide +kernel
theorem d_mo_read_110 : decode prog_13_method_36_code 110 = .ok (.goto 4, 3) := by decide +kernel
theorem d_mo_read_113 : decode prog_13_method_36_code 113 = .ok (.iconst 0, 1) := by decide +kernel
theorem d_mo_read_114 : decode prog_13_method_36_code 114 = .ok (.iadd, 1) := by decide +kernel
theorem d_mo_read_115 : decode prog_13_method_36_code 115 = .ok (.istore_n 2, 1) := by decide +kernel
theorem d_mo_read_116 : decode prog_13_method_36_code 116 = .ok (.goto (-87), 3) := by decide +kernel
theorem d_mo_read_119 : decode prog_13_method_36_code 119 = .ok (.iload_n 2, 1) := by decide +kernel
theorem d_mo_read_120 : decode prog_13_method_36_code 120 = .ok (.ireturn, 1) := by decide +kernel
theorem d_mo_ear_0 : decode prog_13_method_37_code 0 = .ok (.iload_n 1, 1) := by decide +kernel
theorem d_mo_ear_1 : decode prog_13_method_37_code 1 = .ok (.i2l, 1) := by decide +kernel
theorem d_mo_ear_2 : decode prog_13_method_37_code 2 = .ok (.lconst 0, 1) := by decide +kernel
theorem d_mo_ear_3 : decode prog_13_method_37_code 3 = .ok (.ldc2_w 163, 3) := by decide +kernel
theorem d_mo_ear_6 : decode prog_13_method_37_code 6 = .ok (.invokestatic 79, 3) := by decide +kernel
theorem d_mo_ear_9 : decode prog_13_method_37_code 9 = .ok (.ifCond .ne 6, 3) := by decide +kernel
theorem d_mo_ear_12 : decode prog_13_method_37_code 12 = .ok (.bipush (-2), 2) := by decide +kernel
theorem d_mo_ear_14 : decode prog_13_method_37_code 14 = .ok (.ireturn, 1) := by decide +kernel
theorem d_mo_ear_15 : decode prog_13_method_37_code 15 = .ok (.aload_n 0, 1) := by decide +kernel
theorem d_mo_ear_16 : decode prog_13_method_37_code 16 = .ok (.getfield 73, 3) := by decide +kernel
theorem d_mo_ear_19 : decode prog_13_method_37_code 19 = .ok (.istore_n 2, 1) := by decide +kernel
theorem d_mo_ear_20 : decode prog_13_method_37_code 20 = .ok (.aload_n 0, 1) := by decide +kernel
theorem d_mo_ear_21 : decode prog_13_method_37_code 21 = .ok (.iload_n 1, 1) := by decide +kernel
theorem d_mo_ear_22 : decode prog_13_method_37_code 22 = .ok (.putfield 73, 3) := by decide +kernel
theorem d_mo_ear_25 : decode prog_13_method_37_code 25 = .ok (.iload_n 2, 1) := by decide +kernel
theorem d_mo_ear_26 : decode prog_13_method_37_code 26 = .ok (.ireturn, 1) := by decide +kernel
theorem d_mo_begins_0 : decode prog_13_method_38_code 0 = .ok (.iconst 0, 1) := by decide +kernel
theorem d_mo_begins_1 : decode prog_13_method_38_code 1 = .ok (.istore_n 3, 1) := by decide +kernel
theorem d_mo_begins_2 : decode prog_13_method_38_code 2 = .ok (.iload_n 3, 1) := by decide +kernel
theorem d_mo_begins_3 : decode prog_13_method_38_code 3 = .ok (.aload_n 0, 1) := by decide +kernel
theorem d_mo_begins_4 : decode prog_13_method_38_code 4 = .ok (.getfield 31, 3) := by decide +kernel
theorem d_mo_begins_7 : decode prog_13_method_38_code 7 = .ok (.iload_n 1, 1) := by decide +kernel
theorem d_mo_begins_8 : decode prog_13_method_38_code 8 = .ok (.iaload, 1) := by decide +kernel
theorem d_mo_begins_9 : decode prog_13_method_38_code 9 = .ok (.if_icmp .ge 31, 3) := by decide +kernel
theorem d_mo_begins_12 : decode prog_13_method_38_code 12 = .ok (.aload_n 0, 1) := by decide +kernel
theorem d_mo_begins_13 : decode prog_13_method_38_code 13 = .ok (.getfield 40, 3) := by decide +kernel
theorem d_mo_begins_16 : decode prog_13_method_38_code 16 = .ok (.bipush 40, 2) := by decide +kernel
theorem d_mo_begins_18 : decode prog_13_method_38_code 18 = .ok (.iload_n 2, 1) := by decide +kernel
theorem d_mo_begins_19 : decode prog_13_method_38_code 19 = .ok (.imul, 1) := by decide +kernel
theorem d_mo_begins_20 : decode prog_13_method_38_code 20 = .ok (.iload_n 3, 1) := by decide +kernel
theorem d_mo_begins_21 : decode prog_13_method_38_code 21 = .ok (.iadd, 1) := by decide +kernel
theorem d_mo_begins_22 : decode prog_13_method_38_code 22 = .ok (.aload_n 0, 1) := by decide +kernel
theorem d_mo_begins_23 : decode prog_13_method_38_code 23 = .ok (.getfield 28, 3) := by decide +kernel
theorem d_mo_begins_26 : decode prog_13_method_38_code 26 = .ok (.bipush 40, 2) := by decide +kernel
theorem d_mo_begins_28 : decode prog_13_method_38_code 28 = .ok (.iload_n 1, 1) := by decide +kernel
theorem d_mo_begins_29 : decode prog_13_method_38_code 29 = .ok (.imul, 1) := by decide +kernel
theorem d_mo_begins_30 : decode prog_13_method_38_code 30 = .ok (.iload_n 3, 1) := by decide +kernel
theorem d_mo_begins_31 : decode prog_13_method_38_code 31 = .ok (.iadd, 1) := by decide +kernel
theorem d_mo_begins_32 : decode prog_13_method_38_code 32 = .ok (.iaload, 1) := by decide +kernel
theorem d_mo_begins_33 : decode prog_13_method_38_code 33 = .ok (.iastore, 1) := by decide +kernel
theorem d_mo_begins_34 : decode prog_13_method_38_code 34 = .ok (.iinc 3 1, 3) := by decide +kernel
theorem d_mo_begins_37 : decode prog_13_method_38_code 37 = .ok (.goto (-35), 3) := by decide +kernel
theorem d_mo_begins_40 : decode prog_13_method_38_code 40 = .ok (.aload_n 0, 1) := by decide +kernel
theorem d_mo_begins_41 : decode prog_13_method_38_code 41 = .ok (.getfield 43, 3) := by decide +kernel
theorem d_mo_begins_44 : decode prog_13_method_38_code 44 = .ok (.iload_n 2, 1) := by decide +kernel
theorem d_mo_begins_45 : decode prog_13_method_38_code 45 = .ok (.aload_n 0, 1) := by decide +kernel
theorem d_mo_begins_46 : decode prog_13_method_38_code 46 = .ok (.getfield 31, 3) := by decide +kernel
theorem d_mo_begins_49 : decode prog_13_method_38_code 49 = .ok (.iload_n 1, 1) := by decide +kernel
theorem d_mo_begins_50 : decode prog_13_method_38_code 50 = .ok (.iaload, 1) := by decide +kernel
theorem d_mo_begins_51 : decode prog_13_method_38_code 51 = .ok (.iastore, 1) := by decide +kernel
theorem d_mo_begins_52 : decode prog_13_method_38_code 52 = .ok (.return_, 1) := by decide +kernel
theorem d_mo_hummed_0 : decode prog_13_method_39_code 0 = .ok (.iconst 0, 1) := by decide +kernel
theorem d_mo_hummed_1 : decode prog_13_method_39_code 1 = .ok (.istore_n 3, 1) := by decide +kernel
theorem d_mo_hummed_2 : decode prog_13_method_39_code 2 = .ok (.aload_n 0, 1) := by decide +kernel
theorem d_mo_hummed_3 : decode prog_13_method_39_code 3 = .ok (.getfield 34, 3) := by decide +kernel
theorem d_mo_hummed_6 : decode prog_13_method_39_code 6 = .ok (.iconst 3, 1) := by decide +kernel
theorem d_mo_hummed_7 : decode prog_13_method_39_code 7 = .ok (.iload_n 2, 1) := by decide +kernel
theorem d_mo_hummed_8 : decode prog_13_method_39_code 8 = .ok (.imul, 1) := by decide +kernel
theorem d_mo_hummed_9 : decode prog_13_method_39_code 9 = .ok (.iaload, 1) := by decide +kernel
theorem d_mo_hummed_10 : decode prog_13_method_39_code 10 = .ok (.istore 4, 2) := by decide +kernel
theorem d_mo_hummed_12 : decode prog_13_method_39_code 12 = .ok (.aload_n 0, 1) := by decide +kernel
theorem d_mo_hummed_13 : decode prog_13_method_39_code 13 = .ok (.getfield 34, 3) := by decide +kernel
theorem d_mo_hummed_16 : decode prog_13_method_39_code 16 = .ok (.iconst 3, 1) := by decide +kernel
theorem d_mo_hummed_17 : decode prog_13_method_39_code 17 = .ok (.iload_n 2, 1) := by decide +kernel
theorem d_mo_hummed_18 : decode prog_13_method_39_code 18 = .ok (.imul, 1) := by decide +kernel
theorem d_mo_hummed_19 : decode prog_13_method_39_code 19 = .ok (.iconst 1, 1) := by decide +kernel
theorem d_mo_hummed_20 : decode prog_13_method_39_code 20 = .ok (.iadd, 1) := by decide +kernel
theorem d_mo_hummed_21 : decode prog_13_method_39_code 21 = .ok (.iaload, 1) := by decide +kernel
theorem d_mo_hummed_22 : decode prog_13_method_39_code 22 = .ok (.istore 5, 2) := by decide +kernel
theorem d_mo_hummed_24 : decode prog_13_method_39_code 24 = .ok (.aload_n 0, 1) := by decide +kernel
theorem d_mo_hummed_25 : decode prog_13_method_39_code 25 = .ok (.getfield 34, 3) := by decide +kernel
theorem d_mo_hummed_28 : decode prog_13_method_39_code 28 = .ok (.iconst 3, 1) := by decide +kernel
theorem d_mo_hummed_29 : decode prog_13_method_39_code 29 = .ok (.iload_n 2, 1) := by decide +kernel
theorem d_mo_hummed_30 : decode prog_13_method_39_code 30 = .ok (.imul, 1) := by decide +kernel
theorem d_mo_hummed_31 : decode prog_13_method_39_code 31 = .ok (.iconst 2, 1) := by decide +kernel
theorem d_mo_hummed_32 : decode prog_13_method_39_code 32 = .ok (.iadd, 1) := by decide +kernel
theorem d_mo_hummed_33 : decode prog_13_method_39_code 33 = .ok (.iaload, 1) := by decide +kernel
theorem d_mo_hummed_34 : decode prog_13_method_39_code 34 = .ok (.istore 6, 2) := by decide +kernel
theorem d_mo_hummed_36 : decode prog_13_method_39_code 36 = .ok (.iconst 0, 1) := by decide +kernel
theorem d_mo_hummed_37 : decode prog_13_method_39_code 37 = .ok (.istore 7, 2) := by decide +kernel
theorem d_mo_hummed_39 : decode prog_13_method_39_code 39 = .ok (.iload 7, 2) := by decide +kernel
theorem d_mo_hummed_41 : decode prog_13_method_39_code 41 = .ok (.aload_n 0, 1) := by decide +kernel
theorem d_mo_hummed_42 : decode prog_13_method_39_code 42 = .ok (.getfield 43, 3) := by decide +kernel
theorem d_mo_hummed_45 : decode prog_13_method_39_code 45 = .ok (.iload_n 1, 1) := by decide +kernel
theorem d_mo_hummed_46 : decode prog_13_method_39_code 46 = .ok (.iaload, 1) := by decide +kernel
theorem d_mo_hummed_47 : decode prog_13_method_39_code 47 = .ok (.if_icmp .ge 96, 3) := by decide +kernel
theorem d_mo_hummed_50 : decode prog_13_method_39_code 50 = .ok (.aload_n 0, 1) := by decide +kernel
theorem d_mo_hummed_51 : decode prog_13_method_39_code 51 = .ok (.getfield 40, 3) := by decide +kernel
theorem d_mo_hummed_54 : decode prog_13_method_39_code 54 = .ok (.bipush 40, 2) := by decide +kernel
theorem d_mo_hummed_56 : decode prog_13_method_39_code 56 = .ok (.iload_n 1, 1) := by decide +kernel
theorem d_mo_hummed_57 : decode prog_13_method_39_code 57 = .ok (.imul, 1) := by decide +kernel
theorem d_mo_hummed_58 : decode prog_13_method_39_code 58 = .ok (.iload 7, 2) := by decide +kernel
theorem d_mo_hummed_60 : decode prog_13_method_39_code 60 = .ok (.iadd, 1) := by decide +kernel
theorem d_mo_hummed_61 : decode prog_13_method_39_code 61 = .ok (.iaload, 1) := by decide +kernel
theorem d_mo_hummed_62 : decode prog_13_method_39_code 62 = .ok (.istore 8, 2) := by decide +kernel
theorem d_mo_hummed_64 : decode prog_13_method_39_code 64 = .ok (.iload 8, 2) := by decide +kernel
theorem d_mo_hummed_66 : decode prog_13_method_39_code 66 = .ok (.iload 4, 2) := by decide +kernel
theorem d_mo_hummed_68 : decode prog_13_method_39_code 68 = .ok (.if_icmp .ne 7, 3) := by decide +kernel
theorem d_mo_hummed_71 : decode prog_13_method_39_code 71 = .ok (.iconst 1, 1) := by decide +kernel
theorem d_mo_hummed_72 : decode prog_13_method_39_code 72 = .ok (.goto 4, 3) := by decide +kernel
theorem d_mo_hummed_75 : decode prog_13_method_39_code 75 = .ok (.iconst 0, 1) := by decide +kernel
theorem d_mo_hummed_76 : decode prog_13_method_39_code 76 = .ok (.istore 9, 2) := by decide +kernel
theorem d_mo_hummed_78 : decode prog_13_method_39_code 78 = .ok (.iload 9, 2) := by decide +kernel
theorem d_mo_hummed_80 : decode prog_13_method_39_code 80 = .ok (.ifCond .eq 9, 3) := by decide +kernel
theorem d_mo_hummed_83 : decode prog_13_method_39_code 83 = .ok (.iload 5, 2) := by decide +kernel
theorem d_mo_hummed_85 : decode prog_13_method_39_code 85 = .ok (.iconst 1, 1) := by decide +kernel
theorem d_mo_hummed_86 : decode prog_13_method_39_code 86 = .ok (.if_icmp .eq 30, 3) := by decide +kernel
theorem d_mo_hummed_89 : decode prog_13_method_39_code 89 = .ok (.aload_n 0, 1) := by decide +kernel
theorem d_mo_hummed_90 : decode prog_13_method_39_code 90 = .ok (.getfield 67, 3) := by decide +kernel
theorem d_mo_hummed_93 : decode prog_13_method_39_code 93 = .ok (.iload_n 3, 1) := by decide +kernel
theorem d_mo_hummed_94 : decode prog_13_method_39_code 94 = .ok (.iload 9, 2) := by decide +kernel
theorem d_mo_hummed_96 : decode prog_13_method_39_code 96 = .ok (.ifCond .eq 14, 3) := by decide +kernel
theorem d_mo_hummed_99 : decode prog_13_method_39_code 99 = .ok (.iload 5, 2) := by decide +kernel
theorem d_mo_hummed_101 : decode prog_13_method_39_code 101 = .ok (.iconst 2, 1) := by decide +kernel
theorem d_mo_hummed_102 : decode prog_13_method_39_code 102 = .ok (.if_icmp .ne 8, 3) := by decide +kernel
theorem d_mo_hummed_105 : decode prog_13_method_39_code 105 = .ok (.iload 6, 2) := by decide +kernel
theorem d_mo_hummed_107 : decode prog_13_method_39_code 107 = .ok (.goto 5, 3) := by decide +kernel
theorem d_mo_hummed_110 : decode prog_13_method_39_code 110 = .ok (.iload 8, 2) := by decide +kernel
theorem d_mo_hummed_112 : decode prog_13_method_39_code 112 = .ok (.iastore, 1) := by decide +kernel
theorem d_mo_hummed_113 : decode prog_13_method_39_code 113 = .ok (.iinc 3 1, 3) := by decide +kernel
theorem d_mo_hummed_116 : decode prog_13_method_39_code 116 = .ok (.iload 9, 2) := by decide +kernel
theorem d_mo_hummed_118 : decode prog_13_method_39_code 118 = .ok (.ifCond .eq 19, 3) := by decide +kernel
theorem d_mo_hummed_121 : decode prog_13_method_39_code 121 = .ok (.iload 5, 2) := by decide +kernel
theorem d_mo_hummed_123 : decode prog_13_method_39_code 123 = .ok (.ifCond .ne 14, 3) := by decide +kernel
theorem d_mo_hummed_126 : decode prog_13_method_39_code 126 = .ok (.aload_n 0, 1) := by decide +kernel
theorem d_mo_hummed_127 : decode prog_13_method_39_code 127 = .ok (.getfield 67, 3) := by decide +kernel
theorem d_mo_hummed_130 : decode prog_13_method_39_code 130 = .ok (.iload_n 3, 1) := by decide +kernel
theorem d_mo_hummed_131 : decode prog_13_method_39_code 131 = .ok (.iload 6, 2) := by decide +kernel
theorem d_mo_hummed_133 : decode prog_13_method_39_code 133 = .ok (.iastore, 1) := by decide +kernel
theorem d_mo_hummed_134 : decode prog_13_method_39_code 134 = .ok (.iinc 3 1, 3) := by decide +kernel
theorem d_mo_hummed_137 : decode prog_13_method_39_code 137 = .ok (.iinc 7 1, 3) := by decide +kernel
theorem d_mo_hummed_140 : decode prog_13_method_39_code 140 = .ok (.goto (-101), 3) := by decide +kernel
theorem d_mo_hummed_143 : decode prog_13_method_39_code 143 = .ok (.aload_n 0, 1) := by decide +kernel
theorem d_mo_hummed_144 : decode prog_13_method_39_code 144 = .ok (.getfield 43, 3) := by decide +kernel
theorem d_mo_hummed_147 : decode prog_13_method_39_code 147 = .ok (.iload_n 1, 1) := by decide +kernel
theorem d_mo_hummed_148 : decode prog_13_method_39_code 148 = .ok (.iload_n 3, 1) := by decide +kernel
theorem d_mo_hummed_149 : decode prog_13_method_39_code 149 = .ok (.bipush 40, 2) := by decide +kernel
theorem d_mo_hummed_151 : decode prog_13_method_39_code 151 = .ok (.invokestatic 165, 3) := by decide +kernel
theorem d_mo_hummed_154 : decode prog_13_method_39_code 154 = .ok (.iastore, 1) := by decide +kernel
theorem d_mo_hummed_155 : decode prog_13_method_39_code 155 = .ok (.iconst 0, 1) := by decide +kernel
theorem d_mo_hummed_156 : decode prog_13_method_39_code 156 = .ok (.istore 7, 2) := by decide +kernel
theorem d_mo_hummed_158 : decode prog_13_method_39_code 158 = .ok (.iload 7, 2) := by decide +kernel
theorem d_mo_hummed_160 : decode prog_13_method_39_code 160 = .ok (.aload_n 0, 1) := by decide +kernel
theorem d_mo_hummed_161 : decode prog_13_method_39_code 161 = .ok (.getfield 43, 3) := by decide +kernel
theorem d_mo_hummed_164 : decode prog_13_method_39_code 164 = .ok (.iload_n 1, 1) := by decide +kernel
theorem d_mo_hummed_165 : decode prog_13_method_39_code 165 = .ok (.iaload, 1) := by decide +kernel
theorem d_mo_hummed_166 : decode prog_13_method_39_code 166 = .ok (.if_icmp .ge 28, 3) := by decide +kernel
theorem d_mo_hummed_169 : decode prog_13_method_39_code 169 = .ok (.aload_n 0, 1) := by decide +kernel
theorem d_mo_hummed_170 : decode prog_13_method_39_code 170 = .ok (.getfield 40, 3) := by decide +kernel
theorem d_mo_hummed_173 : decode prog_13_method_39_code 173 = .ok (.bipush 40, 2) := by decide +kernel
theorem d_mo_hummed_175 : decode prog_13_method_39_code 175 = .ok (.iload_n 1, 1) := by decide +kernel
theorem d_mo_hummed_176 : decode prog_13_method_39_code 176 = .ok (.imul, 1) := by decide +kernel
theorem d_mo_hummed_177 : decode prog_13_method_39_code 177 = .ok (.iload 7, 2) := by decide +kernel
theorem d_mo_hummed_179 : decode prog_13_method_39_code 179 = .ok (.iadd, 1) := by decide +kernel
theorem d_mo_hummed_180 : decode prog_13_method_39_code 180 = .ok (.aload_n 0, 1) := by decide +kernel
theorem d_mo_hummed_181 : decode prog_13_method_39_code 181 = .ok (.getfield 67, 3) := by decide +kernel
theorem d_mo_hummed_184 : decode prog_13_method_39_code 184 = .ok (.iload 7, 2) := by decide +kernel
theorem d_mo_hummed_186 : decode prog_13_method_39_code 186 = .ok (.iaload, 1) := by decide +kernel
theorem d_mo_hummed_187 : decode prog_13_method_39_code 187 = .ok (.iastore, 1) := by decide +kernel
theorem d_mo_hummed_188 : decode prog_13_method_39_code 188 = .ok (.iinc 7 1, 3) := by decide +kernel
theorem d_mo_hummed_191 : decode prog_13_method_39_code 191 = .ok (.goto (-33), 3) := by decide +kernel
theorem d_mo_hummed_194 : decode prog_13_method_39_code 194 = .ok (.return_, 1) := by decide +kernel
