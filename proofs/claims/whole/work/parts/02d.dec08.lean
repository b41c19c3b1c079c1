theorem d_mo_fairOf_0 : decode prog_13_method_86_code 0 = .ok (.iload_n 1, 1) := by decide +kernel
theorem d_mo_fairOf_1 : decode prog_13_method_86_code 1 = .ok (.istore 4, 2) := by decide +kernel
theorem d_mo_fairOf_3 : decode prog_13_method_86_code 3 = .ok (.aload_n 0, 1) := by decide +kernel
theorem d_mo_fairOf_4 : decode prog_13_method_86_code 4 = .ok (.invokevirtual 189, 3) := by decide +kernel
theorem d_mo_fairOf_7 : decode prog_13_method_86_code 7 = .ok (.iconst 0, 1) := by decide +kernel
theorem d_mo_fairOf_8 : decode prog_13_method_86_code 8 = .ok (.istore 5, 2) := by decide +kernel
theorem d_mo_fairOf_10 : decode prog_13_method_86_code 10 = .ok (.iload 5, 2) := by decide +kernel
theorem d_mo_fairOf_12 : decode prog_13_method_86_code 12 = .ok (.iload_n 2, 1) := by decide +kernel
theorem d_mo_fairOf_13 : decode prog_13_method_86_code 13 = .ok (.if_icmp .ge 68, 3) := by decide +kernel
theorem d_mo_fairOf_16 : decode prog_13_method_86_code 16 = .ok (.aload_n 0, 1) := by decide +kernel
theorem d_mo_fairOf_17 : decode prog_13_method_86_code 17 = .ok (.getfield 122, 3) := by decide +kernel
theorem d_mo_fairOf_20 : decode prog_13_method_86_code 20 = .ok (.ifCond .le 61, 3) := by decide +kernel
theorem d_mo_fairOf_23 : decode prog_13_method_86_code 23 = .ok (.ldc_w 295, 3) := by decide +kernel
theorem d_mo_fairOf_26 : decode prog_13_method_86_code 26 = .ok (.iload 4, 2) := by decide +kernel
theorem d_mo_fairOf_28 : decode prog_13_method_86_code 28 = .ok (.imul, 1) := by decide +kernel
theorem d_mo_fairOf_29 : decode prog_13_method_86_code 29 = .ok (.sipush 12345, 3) := by decide +kernel
theorem d_mo_fairOf_32 : decode prog_13_method_86_code 32 = .ok (.iadd, 1) := by decide +kernel
theorem d_mo_fairOf_33 : decode prog_13_method_86_code 33 = .ok (.istore 4, 2) := by decide +kernel
theorem d_mo_fairOf_35 : decode prog_13_method_86_code 35 = .ok (.iload 4, 2) := by decide +kernel
theorem d_mo_fairOf_37 : decode prog_13_method_86_code 37 = .ok (.bipush 16, 2) := by decide +kernel
theorem d_mo_fairOf_39 : decode prog_13_method_86_code 39 = .ok (.iushr, 1) := by decide +kernel
theorem d_mo_fairOf_40 : decode prog_13_method_86_code 40 = .ok (.aload_n 0, 1) := by decide +kernel
theorem d_mo_fairOf_41 : decode prog_13_method_86_code 41 = .ok (.getfield 112, 3) := by decide +kernel
theorem d_mo_fairOf_44 : decode prog_13_method_86_code 44 = .ok (.irem, 1) := by decide +kernel
theorem d_mo_fairOf_45 : decode prog_13_method_86_code 45 = .ok (.istore 6, 2) := by decide +kernel
theorem d_mo_fairOf_47 : decode prog_13_method_86_code 47 = .ok (.ldc_w 295, 3) := by decide +kernel
theorem d_mo_fairOf_50 : decode prog_13_method_86_code 50 = .ok (.iload 4, 2) := by decide +kernel
theorem d_mo_fairOf_52 : decode prog_13_method_86_code 52 = .ok (.imul, 1) := by decide +kernel
theorem d_mo_fairOf_53 : decode prog_13_method_86_code 53 = .ok (.sipush 12345, 3) := by decide +kernel
theorem d_mo_fairOf_56 : decode prog_13_method_86_code 56 = .ok (.iadd, 1) := by decide +kernel
theorem d_mo_fairOf_57 : decode prog_13_method_86_code 57 = .ok (.istore 4, 2) := by decide +kernel
theorem d_mo_fairOf_59 : decode prog_13_method_86_code 59 = .ok (.aload_n 0, 1) := by decide +kernel
theorem d_mo_fairOf_60 : decode prog_13_method_86_code 60 = .ok (.iload 6, 2) := by decide +kernel
theorem d_mo_fairOf_62 : decode prog_13_method_86_code 62 = .ok (.iload 4, 2) := by decide +kernel
theorem d_mo_fairOf_64 : decode prog_13_method_86_code 64 = .ok (.bipush 16, 2) := by decide +kernel
theorem d_mo_fairOf_66 : decode prog_13_method_86_code 66 = .ok (.iushr, 1) := by decide +kernel
theorem d_mo_fairOf_67 : decode prog_13_method_86_code 67 = .ok (.aload_n 0, 1) := by decide +kernel
theorem d_mo_fairOf_68 : decode prog_13_method_86_code 68 = .ok (.getfield 122, 3) := by decide +kernel
theorem d_mo_fairOf_71 : decode prog_13_method_86_code 71 = .ok (.irem, 1) := by decide +kernel
theorem d_mo_fairOf_72 : decode prog_13_method_86_code 72 = .ok (.invokevirtual 183, 3) := by decide +kernel
theorem d_mo_fairOf_75 : decode prog_13_method_86_code 75 = .ok (.iinc 5 1, 3) := by decide +kernel
theorem d_mo_fairOf_78 : decode prog_13_method_86_code 78 = .ok (.goto (-68), 3) := by decide +kernel
theorem d_mo_fairOf_81 : decode prog_13_method_86_code 81 = .ok (.aload_n 0, 1) := by decide +kernel
theorem d_mo_fairOf_82 : decode prog_13_method_86_code 82 = .ok (.getfield 43, 3) := by decide +kernel
theorem d_mo_fairOf_85 : decode prog_13_method_86_code 85 = .ok (.iload_n 3, 1) := by decide +kernel
theorem d_mo_fairOf_86 : decode prog_13_method_86_code 86 = .ok (.iaload, 1) := by decide +kernel
theorem d_mo_fairOf_87 : decode prog_13_method_86_code 87 = .ok (.ireturn, 1) := by decide +kernel
theorem d_mo_fair_0 : decode prog_13_method_87_code 0 = .ok (.aload_n 0, 1) := by decide +kernel
theorem d_mo_fair_1 : decode prog_13_method_87_code 1 = .ok (.invokevirtual 137, 3) := by decide +kernel
theorem d_mo_fair_4 : decode prog_13_method_87_code 4 = .ok (.iload_n 2, 1) := by decide +kernel
theorem d_mo_fair_5 : decode prog_13_method_87_code 5 = .ok (.i2l, 1) := by decide +kernel
theorem d_mo_fair_6 : decode prog_13_method_87_code 6 = .ok (.lconst 1, 1) := by decide +kernel
theorem d_mo_fair_7 : decode prog_13_method_87_code 7 = .ok (.ldc2_w 285, 3) := by decide +kernel
theorem d_mo_fair_10 : decode prog_13_method_87_code 10 = .ok (.invokestatic 79, 3) := by decide +kernel
theorem d_mo_fair_13 : decode prog_13_method_87_code 13 = .ok (.ifCond .eq 21, 3) := by decide +kernel
theorem d_mo_fair_16 : decode prog_13_method_87_code 16 = .ok (.aload_n 0, 1) := by decide +kernel
theorem d_mo_fair_17 : decode prog_13_method_87_code 17 = .ok (.iload_n 3, 1) := by decide +kernel
theorem d_mo_fair_18 : decode prog_13_method_87_code 18 = .ok (.invokevirtual 140, 3) := by decide +kernel
theorem d_mo_fair_21 : decode prog_13_method_87_code 21 = .ok (.ifCond .eq 13, 3) := by decide +kernel
theorem d_mo_fair_24 : decode prog_13_method_87_code 24 = .ok (.aload_n 0, 1) := by decide +kernel
theorem d_mo_fair_25 : decode prog_13_method_87_code 25 = .ok (.iload_n 1, 1) := by decide +kernel
theorem d_mo_fair_26 : decode prog_13_method_87_code 26 = .ok (.iload_n 2, 1) := by decide +kernel
theorem d_mo_fair_27 : decode prog_13_method_87_code 27 = .ok (.iload_n 3, 1) := by decide +kernel
theorem d_mo_fair_28 : decode prog_13_method_87_code 28 = .ok (.invokevirtual 296, 3) := by decide +kernel
theorem d_mo_fair_31 : decode prog_13_method_87_code 31 = .ok (.goto 5, 3) := by decide +kernel
theorem d_mo_fair_34 : decode prog_13_method_87_code 34 = .ok (.bipush (-2), 2) := by decide +kernel
theorem d_mo_fair_36 : decode prog_13_method_87_code 36 = .ok (.ireturn, 1) := by decide +kernel
theorem d_mo_write_0 : decode prog_13_method_88_code 0 = .ok (.aload_n 0, 1) := by decide +kernel
theorem d_mo_write_1 : decode prog_13_method_88_code 1 = .ok (.invokevirtual 137, 3) := by decide +kernel
theorem d_mo_write_4 : decode prog_13_method_88_code 4 = .ok (.iload_n 1, 1) := by decide +kernel
theorem d_mo_write_5 : decode prog_13_method_88_code 5 = .ok (.invokestatic 150, 3) := by decide +kernel
theorem d_mo_write_8 : decode prog_13_method_88_code 8 = .ok (.ifCond .eq 18, 3) := by decide +kernel
theorem d_mo_write_11 : decode prog_13_method_88_code 11 = .ok (.aload_n 0, 1) := by decide +kernel
theorem d_mo_write_12 : decode prog_13_method_88_code 12 = .ok (.iload_n 2, 1) := by decide +kernel
theorem d_mo_write_13 : decode prog_13_method_88_code 13 = .ok (.invokevirtual 140, 3) := by decide +kernel
theorem d_mo_write_16 : decode prog_13_method_88_code 16 = .ok (.ifCond .eq 10, 3) := by decide +kernel
theorem d_mo_write_19 : decode prog_13_method_88_code 19 = .ok (.iload_n 3, 1) := by decide +kernel
theorem d_mo_write_20 : decode prog_13_method_88_code 20 = .ok (.invokestatic 88, 3) := by decide +kernel
theorem d_mo_write_23 : decode prog_13_method_88_code 23 = .ok (.ifCond .ne 6, 3) := by decide +kernel
theorem d_mo_write_26 : decode prog_13_method_88_code 26 = .ok (.bipush (-2), 2) := by decide +kernel
theorem d_mo_write_28 : decode prog_13_method_88_code 28 = .ok (.ireturn, 1) := by decide +kernel
theorem d_mo_write_29 : decode prog_13_method_88_code 29 = .ok (.aload_n 0, 1) := by decide +kernel
theorem d_mo_write_30 : decode prog_13_method_88_code 30 = .ok (.getfield 7, 3) := by decide +kernel
theorem d_mo_write_33 : decode prog_13_method_88_code 33 = .ok (.iload_n 3, 1) := by decide +kernel
theorem d_mo_write_34 : decode prog_13_method_88_code 34 = .ok (.iaload, 1) := by decide +kernel
theorem d_mo_write_35 : decode prog_13_method_88_code 35 = .ok (.ifCond .ge 9, 3) := by decide +kernel
theorem d_mo_write_38 : decode prog_13_method_88_code 38 = .ok (.aload_n 0, 1) := by decide +kernel
theorem d_mo_write_39 : decode prog_13_method_88_code 39 = .ok (.iconst 1, 1) := by decide +kernel
theorem d_mo_write_40 : decode prog_13_method_88_code 40 = .ok (.invokevirtual 94, 3) := by decide +kernel
theorem d_mo_write_43 : decode prog_13_method_88_code 43 = .ok (.ireturn, 1) := by decide +kernel
theorem d_mo_write_44 : decode prog_13_method_88_code 44 = .ok (.aload_n 0, 1) := by decide +kernel
theorem d_mo_write_45 : decode prog_13_method_88_code 45 = .ok (.iload_n 1, 1) := by decide +kernel
theorem d_mo_write_46 : decode prog_13_method_88_code 46 = .ok (.aload_n 0, 1) := by decide +kernel
theorem d_mo_write_47 : decode prog_13_method_88_code 47 = .ok (.getfield 73, 3) := by decide +kernel
theorem d_mo_write_50 : decode prog_13_method_88_code 50 = .ok (.invokevirtual 195, 3) := by decide +kernel
theorem d_mo_write_53 : decode prog_13_method_88_code 53 = .ok (.aload_n 0, 1) := by decide +kernel
theorem d_mo_write_54 : decode prog_13_method_88_code 54 = .ok (.getfield 13, 3) := by decide +kernel
theorem d_mo_write_57 : decode prog_13_method_88_code 57 = .ok (.iload_n 3, 1) := by decide +kernel
theorem d_mo_write_58 : decode prog_13_method_88_code 58 = .ok (.iaload, 1) := by decide +kernel
theorem d_mo_write_59 : decode prog_13_method_88_code 59 = .ok (.aload_n 0, 1) := by decide +kernel
theorem d_mo_write_60 : decode prog_13_method_88_code 60 = .ok (.getfield 43, 3) := by decide +kernel
theorem d_mo_write_63 : decode prog_13_method_88_code 63 = .ok (.iload_n 2, 1) := by decide +kernel
theorem d_mo_write_64 : decode prog_13_method_88_code 64 = .ok (.iaload, 1) := by decide +kernel
theorem d_mo_write_65 : decode prog_13_method_88_code 65 = .ok (.invokestatic 165, 3) := by decide +kernel
theorem d_mo_write_68 : decode prog_13_method_88_code 68 = .ok (.istore 4, 2) := by decide +kernel
theorem d_mo_write_70 : decode prog_13_method_88_code 70 = .ok (.iconst 0, 1) := by decide +kernel
theorem d_mo_write_71 : decode prog_13_method_88_code 71 = .ok (.istore 5, 2) := by decide +kernel
theorem d_mo_write_73 : decode prog_13_method_88_code 73 = .ok (.iload 5, 2) := by decide +kernel
theorem d_mo_write_75 : decode prog_13_method_88_code 75 = .ok (.iload 4, 2) := by decide +kernel
theorem d_mo_write_77 : decode prog_13_method_88_code 77 = .ok (.if_icmp .ge 42, 3) := by decide +kernel
theorem d_mo_write_80 : decode prog_13_method_88_code 80 = .ok (.aload_n 0, 1) := by decide +kernel
theorem d_mo_write_81 : decode prog_13_method_88_code 81 = .ok (.getfield 16, 3) := by decide +kernel
theorem d_mo_write_84 : decode prog_13_method_88_code 84 = .ok (.bipush 60, 2) := by decide +kernel
theorem d_mo_write_86 : decode prog_13_method_88_code 86 = .ok (.iload_n 3, 1) := by decide +kernel
theorem d_mo_write_87 : decode prog_13_method_88_code 87 = .ok (.imul, 1) := by decide +kernel
theorem d_mo_write_88 : decode prog_13_method_88_code 88 = .ok (.iload 5, 2) := by decide +kernel
theorem d_mo_write_90 : decode prog_13_method_88_code 90 = .ok (.iadd, 1) := by decide +kernel
theorem d_mo_write_91 : decode prog_13_method_88_code 91 = .ok (.aload_n 0, 1) := by decide +kernel
theorem d_mo_write_92 : decode prog_13_method_88_code 92 = .ok (.getfield 7, 3) := by decide +kernel
theorem d_mo_write_95 : decode prog_13_method_88_code 95 = .ok (.iload_n 3, 1) := by decide +kernel
theorem d_mo_write_96 : decode prog_13_method_88_code 96 = .ok (.iaload, 1) := by decide +kernel
theorem d_mo_write_97 : decode prog_13_method_88_code 97 = .ok (.aload_n 0, 1) := by decide +kernel
theorem d_mo_write_98 : decode prog_13_method_88_code 98 = .ok (.getfield 40, 3) := by decide +kernel
theorem d_mo_write_101 : decode prog_13_method_88_code 101 = .ok (.bipush 40, 2) := by decide +kernel
theorem d_mo_write_103 : decode prog_13_method_88_code 103 = .ok (.iload_n 2, 1) := by decide +kernel
theorem d_mo_write_104 : decode prog_13_method_88_code 104 = .ok (.imul, 1) := by decide +kernel
theorem d_mo_write_105 : decode prog_13_method_88_code 105 = .ok (.iload 5, 2) := by decide +kernel
theorem d_mo_write_107 : decode prog_13_method_88_code 107 = .ok (.iadd, 1) := by decide +kernel
theorem d_mo_write_108 : decode prog_13_method_88_code 108 = .ok (.iaload, 1) := by decide +kernel
theorem d_mo_write_109 : decode prog_13_method_88_code 109 = .ok (.invokestatic 102, 3) := by decide +kernel
theorem d_mo_write_112 : decode prog_13_method_88_code 112 = .ok (.iastore, 1) := by decide +kernel
theorem d_mo_write_113 : decode prog_13_method_88_code 113 = .ok (.iinc 5 1, 3) := by decide +kernel
theorem d_mo_write_116 : decode prog_13_method_88_code 116 = .ok (.goto (-43), 3) := by decide +kernel
theorem d_mo_write_119 : decode prog_13_method_88_code 119 = .ok (.iload 4, 2) := by decide +kernel
theorem d_mo_write_121 : decode prog_13_method_88_code 121 = .ok (.ireturn, 1) := by decide +kernel
theorem d_mo_count_0 : decode prog_13_method_89_code 0 = .ok (.iconst 0, 1) := by decide +kernel
theorem d_mo_count_1 : decode prog_13_method_89_code 1 = .ok (.istore_n 2, 1) := by decide +kernel
theorem d_mo_count_2 : decode prog_13_method_89_code 2 = .ok (.aload_n 0, 1) := by decide +kernel
theorem d_mo_count_3 : decode prog_13_method_89_code 3 = .ok (.invokevirtual 137, 3) := by decide +kernel
theorem d_mo_count_6 : decode prog_13_method_89_code 6 = .ok (.iload_n 1, 1) := by decide +kernel
theorem d_mo_count_7 : decode prog_13_method_89_code 7 = .ok (.tableswitch 147 0 8 #[49, 54, 59, 59, 68, 73, 110, 115, 142], 49) := by decide +kernel
theorem d_mo_count_56 : decode prog_13_method_89_code 56 = .ok (.aload_n 0, 1) := by decide +kernel
theorem d_mo_count_57 : decode prog_13_method_89_code 57 = .ok (.getfield 112, 3) := by decide +kernel
theorem d_mo_count_60 : decode prog_13_method_89_code 60 = .ok (.ireturn, 1) := by decide +kernel
theorem d_mo_count_61 : decode prog_13_method_89_code 61 = .ok (.aload_n 0, 1) := by decide +kernel
theorem d_mo_count_62 : decode prog_13_method_89_code 62 = .ok (.getfield 122, 3) := by decide +kernel
theorem d_mo_count_65 : decode prog_13_method_89_code 65 = .ok (.ireturn, 1) := by decide +kernel
theorem d_mo_count_66 : decode prog_13_method_89_code 66 = .ok (.aload_n 0, 1) := by decide +kernel
theorem d_mo_count_67 : decode prog_13_method_89_code 67 = .ok (.getfield 25, 3) := by decide +kernel
theorem d_mo_count_70 : decode prog_13_method_89_code 70 = .ok (.iload_n 1, 1) := by decide +kernel
theorem d_mo_count_71 : decode prog_13_method_89_code 71 = .ok (.iconst 2, 1) := by decide +kernel
theorem d_mo_count_72 : decode prog_13_method_89_code 72 = .ok (.isub, 1) := by decide +kernel
theorem d_mo_count_73 : decode prog_13_method_89_code 73 = .ok (.iaload, 1) := by decide +kernel
theorem d_mo_count_74 : decode prog_13_method_89_code 74 = .ok (.ireturn, 1) := by decide +kernel
theorem d_mo_count_75 : decode prog_13_method_89_code 75 = .ok (.aload_n 0, 1) := by decide +kernel
theorem d_mo_count_76 : decode prog_13_method_89_code 76 = .ok (.getfield 157, 3) := by decide +kernel
theorem d_mo_count_79 : decode prog_13_method_89_code 79 = .ok (.ireturn, 1) := by decide +kernel
theorem d_mo_count_80 : decode prog_13_method_89_code 80 = .ok (.aload_n 0, 1) := by decide +kernel
theorem d_mo_count_81 : decode prog_13_method_89_code 81 = .ok (.bipush 39, 2) := by decide +kernel
theorem d_mo_count_83 : decode prog_13_method_89_code 83 = .ok (.aload_n 0, 1) := by decide +kernel
theorem d_mo_count_84 : decode prog_13_method_89_code 84 = .ok (.getfield 73, 3) := by decide +kernel
theorem d_mo_count_87 : decode prog_13_method_89_code 87 = .ok (.invokevirtual 195, 3) := by decide +kernel
theorem d_mo_count_90 : decode prog_13_method_89_code 90 = .ok (.iconst 0, 1) := by decide +kernel
theorem d_mo_count_91 : decode prog_13_method_89_code 91 = .ok (.istore_n 3, 1) := by decide +kernel
theorem d_mo_count_92 : decode prog_13_method_89_code 92 = .ok (.iload_n 3, 1) := by decide +kernel
theorem d_mo_count_93 : decode prog_13_method_89_code 93 = .ok (.aload_n 0, 1) := by decide +kernel
theorem d_mo_count_94 : decode prog_13_method_89_code 94 = .ok (.getfield 157, 3) := by decide +kernel
theorem d_mo_count_97 : decode prog_13_method_89_code 97 = .ok (.if_icmp .ge 18, 3) := by decide +kernel
theorem d_mo_count_100 : decode prog_13_method_89_code 100 = .ok (.iload_n 2, 1) := by decide +kernel
theorem d_mo_count_101 : decode prog_13_method_89_code 101 = .ok (.aload_n 0, 1) := by decide +kernel
theorem d_mo_count_102 : decode prog_13_method_89_code 102 = .ok (.getfield 58, 3) := by decide +kernel
theorem d_mo_count_105 : decode prog_13_method_89_code 105 = .ok (.iload_n 3, 1) := by decide +kernel
theorem d_mo_count_106 : decode prog_13_method_89_code 106 = .ok (.iaload, 1) := by decide +kernel
theorem d_mo_count_107 : decode prog_13_method_89_code 107 = .ok (.iadd, 1) := by decide +kernel
theorem d_mo_count_108 : decode prog_13_method_89_code 108 = .ok (.istore_n 2, 1) := by decide +kernel
theorem d_mo_count_109 : decode prog_13_method_89_code 109 = .ok (.iinc 3 1, 3) := by decide +kernel
theorem d_mo_count_112 : decode prog_13_method_89_code 112 = .ok (.goto (-20), 3) := by decide +kernel
theorem d_mo_count_115 : decode prog_13_method_89_code 115 = .ok (.iload_n 2, 1) := by decide +kernel
theorem d_mo_count_116 : decode prog_13_method_89_code 116 = .ok (.ireturn, 1) := by decide +kernel
theorem d_mo_count_117 : decode prog_13_method_89_code 117 = .ok (.aload_n 0, 1) := by decide +kernel
theorem d_mo_count_118 : decode prog_13_method_89_code 118 = .ok (.getfield 73, 3) := by decide +kernel
theorem d_mo_count_121 : decode prog_13_method_89_code 121 = .ok (.ireturn, 1) := by decide +kernel
theorem d_mo_count_122 : decode prog_13_method_89_code 122 = .ok (.iconst 0, 1) := by decide +kernel
theorem d_mo_count_123 : decode prog_13_method_89_code 123 = .ok (.istore_n 3, 1) := by decide +kernel
theorem d_mo_count_124 : decode prog_13_method_89_code 124 = .ok (.iload_n 3, 1) := by decide +kernel
theorem d_mo_count_125 : decode prog_13_method_89_code 125 = .ok (.aload_n 0, 1) := by decide +kernel
theorem d_mo_count_126 : decode prog_13_method_89_code 126 = .ok (.getfield 112, 3) := by decide +kernel
theorem d_mo_count_129 : decode prog_13_method_89_code 129 = .ok (.if_icmp .ge 18, 3) := by decide +kernel
theorem d_mo_count_132 : decode prog_13_method_89_code 132 = .ok (.iload_n 2, 1) := by decide +kernel
theorem d_mo_count_133 : decode prog_13_method_89_code 133 = .ok (.aload_n 0, 1) := by decide +kernel
theorem d_mo_count_134 : decode prog_13_method_89_code 134 = .ok (.getfield 31, 3) := by decide +kernel
theorem d_mo_count_137 : decode prog_13_method_89_code 137 = .ok (.iload_n 3, 1) := by decide +kernel
theorem d_mo_count_138 : decode prog_13_method_89_code 138 = .ok (.iaload, 1) := by decide +kernel
theorem d_mo_count_139 : decode prog_13_method_89_code 139 = .ok (.iadd, 1) := by decide +kernel
theorem d_mo_count_140 : decode prog_13_method_89_code 140 = .ok (.istore_n 2, 1) := by decide +kernel
theorem d_mo_count_141 : decode prog_13_method_89_code 141 = .ok (.iinc 3 1, 3) := by decide +kernel
theorem d_mo_count_144 : decode prog_13_method_89_code 144 = .ok (.goto (-20), 3) := by decide +kernel
theorem d_mo_count_147 : decode prog_13_method_89_code 147 = .ok (.iload_n 2, 1) := by decide +kernel
theorem d_mo_count_148 : decode prog_13_method_89_code 148 = .ok (.ireturn, 1) := by decide +kernel
theorem d_mo_count_149 : decode prog_13_method_89_code 149 = .ok (.aload_n 0, 1) := by decide +kernel
theorem d_mo_count_150 : decode prog_13_method_89_code 150 = .ok (.getfield 83, 3) := by decide +kernel
theorem d_mo_count_153 : decode prog_13_method_89_code 153 = .ok (.ireturn, 1) := by decide +kernel
theorem d_mo_count_154 : decode prog_13_method_89_code 154 = .ok (.bipush (-2), 2) := by decide +kernel
theorem d_mo_count_156 : decode prog_13_method_89_code 156 = .ok (.ireturn, 1) := by decide +kernel
theorem d_mo_tellsTune_0 : decode prog_13_method_90_code 0 = .ok (.ldc2_w 299, 3) := by decide +kernel
theorem d_mo_tellsTune_3 : decode prog_13_method_90_code 3 = .ok (.lload_n 1, 1) := by decide +kernel
theorem d_mo_tellsTune_4 : decode prog_13_method_90_code 4 = .ok (.lmul, 1) := by decide +kernel
theorem d_mo_tellsTune_5 : decode prog_13_method_90_code 5 = .ok (.aload_n 0, 1) := by decide +kernel
theorem d_mo_tellsTune_6 : decode prog_13_method_90_code 6 = .ok (.getfield 31, 3) := by decide +kernel
theorem d_mo_tellsTune_9 : decode prog_13_method_90_code 9 = .ok (.iload_n 3, 1) := by decide +kernel
theorem d_mo_tellsTune_10 : decode prog_13_method_90_code 10 = .ok (.iaload, 1) := by decide +kernel
theorem d_mo_tellsTune_11 : decode prog_13_method_90_code 11 = .ok (.i2l, 1) := by decide +kernel
theorem d_mo_tellsTune_12 : decode prog_13_method_90_code 12 = .ok (.ladd, 1) := by decide +kernel
theorem d_mo_tellsTune_13 : decode prog_13_method_90_code 13 = .ok (.lstore 4, 2) := by decide +kernel
theorem d_mo_tellsTune_15 : decode prog_13_method_90_code 15 = .ok (.ldc2_w 299, 3) := by decide +kernel
theorem d_mo_tellsTune_18 : decode prog_13_method_90_code 18 = .ok (.lload 4, 2) := by decide +kernel
theorem d_mo_tellsTune_20 : decode prog_13_method_90_code 20 = .ok (.lmul, 1) := by decide +kernel
theorem d_mo_tellsTune_21 : decode prog_13_method_90_code 21 = .ok (.aload_n 0, 1) := by decide +kernel
theorem d_mo_tellsTune_22 : decode prog_13_method_90_code 22 = .ok (.iconst 5, 1) := by decide +kernel
theorem d_mo_tellsTune_23 : decode prog_13_method_90_code 23 = .ok (.iload_n 3, 1) := by decide +kernel
theorem d_mo_tellsTune_24 : decode prog_13_method_90_code 24 = .ok (.iconst (-1), 1) := by decide +kernel
theorem d_mo_tellsTune_25 : decode prog_13_method_90_code 25 = .ok (.invokevirtual 198, 3) := by decide +kernel
theorem d_mo_tellsTune_28 : decode prog_13_method_90_code 28 = .ok (.i2l, 1) := by decide +kernel
theorem d_mo_tellsTune_29 : decode prog_13_method_90_code 29 = .ok (.ladd, 1) := by decide +kernel
theorem d_mo_tellsTune_30 : decode prog_13_method_90_code 30 = .ok (.lstore 4, 2) := by decide +kernel
theorem d_mo_tellsTune_32 : decode prog_13_method_90_code 32 = .ok (.ldc2_w 299, 3) := by decide +kernel
theorem d_mo_tellsTune_35 : decode prog_13_method_90_code 35 = .ok (.lload 4, 2) := by decide +kernel
theorem d_mo_tellsTune_37 : decode prog_13_method_90_code 37 = .ok (.lmul, 1) := by decide +kernel
theorem d_mo_tellsTune_38 : decode prog_13_method_90_code 38 = .ok (.aload_n 0, 1) := by decide +kernel
theorem d_mo_tellsTune_39 : decode prog_13_method_90_code 39 = .ok (.bipush 39, 2) := by decide +kernel
theorem d_mo_tellsTune_41 : decode prog_13_method_90_code 41 = .ok (.iload_n 3, 1) := by decide +kernel
theorem d_mo_tellsTune_42 : decode prog_13_method_90_code 42 = .ok (.iconst (-1), 1) := by decide +kernel
theorem d_mo_tellsTune_43 : decode prog_13_method_90_code 43 = .ok (.invokevirtual 198, 3) := by decide +kernel
theorem d_mo_tellsTune_46 : decode prog_13_method_90_code 46 = .ok (.i2l, 1) := by decide +kernel
theorem d_mo_tellsTune_47 : decode prog_13_method_90_code 47 = .ok (.ladd, 1) := by decide +kernel
theorem d_mo_tellsTune_48 : decode prog_13_method_90_code 48 = .ok (.lstore 4, 2) := by decide +kernel
theorem d_mo_tellsTune_50 : decode prog_13_method_90_code 50 = .ok (.ldc2_w 299, 3) := by decide +kernel
theorem d_mo_tellsTune_53 : decode prog_13_method_90_code 53 = .ok (.lload 4, 2) := by decide +kernel
theorem d_mo_tellsTune_55 : decode prog_13_method_90_code 55 = .ok (.lmul, 1) := by decide +kernel
theorem d_mo_tellsTune_56 : decode prog_13_method_90_code 56 = .ok (.aload_n 0, 1) := by decide +kernel
theorem d_mo_tellsTune_57 : decode prog_13_method_90_code 57 = .ok (.iconst 5, 1) := by decide +kernel
theorem d_mo_tellsTune_58 : decode prog_13_method_90_code 58 = .ok (.iload_n 3, 1) := by decide +kernel
theorem d_mo_tellsTune_59 : decode prog_13_method_90_code 59 = .ok (.iconst 2, 1) := by decide +kernel
theorem d_mo_tellsTune_60 : decode prog_13_method_90_code 60 = .ok (.invokevirtual 198, 3) := by decide +kernel
theorem d_mo_tellsTune_63 : decode prog_13_method_90_code 63 = .ok (.i2l, 1) := by decide +kernel
theorem d_mo_tellsTune_64 : decode prog_13_method_90_code 64 = .ok (.ladd, 1) := by decide +kernel
theorem d_mo_tellsTune_65 : decode prog_13_method_90_code 65 = .ok (.lstore 4, 2) := by decide +kernel
theorem d_mo_tellsTune_67 : decode prog_13_method_90_code 67 = .ok (.ldc2_w 299, 3) := by decide +kernel
theorem d_mo_tellsTune_70 : decode prog_13_method_90_code 70 = .ok (.lload 4, 2) := by decide +kernel
theorem d_mo_tellsTune_72 : decode prog_13_method_90_code 72 = .ok (.lmul, 1) := by decide +kernel
theorem d_mo_tellsTune_73 : decode prog_13_method_90_code 73 = .ok (.aload_n 0, 1) := by decide +kernel
theorem d_mo_tellsTune_74 : decode prog_13_method_90_code 74 = .ok (.iconst 5, 1) := by decide +kernel
theorem d_mo_tellsTune_75 : decode prog_13_method_90_code 75 = .ok (.iload_n 3, 1) := by decide +kernel
theorem d_mo_tellsTune_76 : decode prog_13_method_90_code 76 = .ok (.invokevirtual 201, 3) := by decide +kernel
theorem d_mo_tellsTune_79 : decode prog_13_method_90_code 79 = .ok (.i2l, 1) := by decide +kernel
theorem d_mo_tellsTune_80 : decode prog_13_method_90_code 80 = .ok (.ladd, 1) := by decide +kernel
theorem d_mo_tellsTune_81 : decode prog_13_method_90_code 81 = .ok (.lstore 4, 2) := by decide +kernel
theorem d_mo_tellsTune_83 : decode prog_13_method_90_code 83 = .ok (.ldc2_w 299, 3) := by decide +kernel
theorem d_mo_tellsTune_86 : decode prog_13_method_90_code 86 = .ok (.lload 4, 2) := by decide +kernel
theorem d_mo_tellsTune_88 : decode prog_13_method_90_code 88 = .ok (.lmul, 1) := by decide +kernel
theorem d_mo_tellsTune_89 : decode prog_13_method_90_code 89 = .ok (.aload_n 0, 1) := by decide +kernel
theorem d_mo_tellsTune_90 : decode prog_13_method_90_code 90 = .ok (.iload_n 3, 1) := by decide +kernel
theorem d_mo_tellsTune_91 : decode prog_13_method_90_code 91 = .ok (.bipush 9, 2) := by decide +kernel
theorem d_mo_tellsTune_93 : decode prog_13_method_90_code 93 = .ok (.iconst (-1), 1) := by decide +kernel
theorem d_mo_tellsTune_94 : decode prog_13_method_90_code 94 = .ok (.invokevirtual 228, 3) := by decide +kernel
theorem d_mo_tellsTune_97 : decode prog_13_method_90_code 97 = .ok (.i2l, 1) := by decide +kernel
theorem d_mo_tellsTune_98 : decode prog_13_method_90_code 98 = .ok (.ladd, 1) := by decide +kernel
theorem d_mo_tellsTune_99 : decode prog_13_method_90_code 99 = .ok (.lstore 4, 2) := by decide +kernel
theorem d_mo_tellsTune_101 : decode prog_13_method_90_code 101 = .ok (.ldc2_w 299, 3) := by decide +kernel
theorem d_mo_tellsTune_104 : decode prog_13_method_90_code 104 = .ok (.lload 4, 2) := by decide +kernel
theorem d_mo_tellsTune_106 : decode prog_13_method_90_code 106 = .ok (.lmul, 1) := by decide +kernel
theorem d_mo_tellsTune_107 : decode prog_13_method_90_code 107 = .ok (.aload_n 0, 1) := by decide +kernel
theorem d_mo_tellsTune_108 : decode prog_13_method_90_code 108 = .ok (.iload_n 3, 1) := by decide +kernel
theorem d_mo_tellsTune_109 : decode prog_13_method_90_code 109 = .ok (.bipush 9, 2) := by decide +kernel
theorem d_mo_tellsTune_111 : decode prog_13_method_90_code 111 = .ok (.iconst 0, 1) := by decide +kernel
theorem d_mo_tellsTune_112 : decode prog_13_method_90_code 112 = .ok (.invokevirtual 228, 3) := by decide +kernel
theorem d_mo_tellsTune_115 : decode prog_13_method_90_code 115 = .ok (.i2l, 1) := by decide +kernel
theorem d_mo_tellsTune_116 : decode prog_13_method_90_code 116 = .ok (.ladd, 1) := by decide +kernel
theorem d_mo_tellsTune_117 : decode prog_13_method_90_code 117 = .ok (.lstore 4, 2) := by decide +kernel
theorem d_mo_tellsTune_119 : decode prog_13_method_90_code 119 = .ok (.ldc2_w 299, 3) := by decide +kernel
theorem d_mo_tellsTune_122 : decode prog_13_method_90_code 122 = .ok (.lload 4, 2) := by decide +kernel
theorem d_mo_tellsTune_124 : decode prog_13_method_90_code 124 = .ok (.lmul, 1) := by decide +kernel
theorem d_mo_tellsTune_125 : decode prog_13_method_90_code 125 = .ok (.aload_n 0, 1) := by decide +kernel
theorem d_mo_tellsTune_126 : decode prog_13_method_90_code 126 = .ok (.iload_n 3, 1) := by decide +kernel
theorem d_mo_tellsTune_127 : decode prog_13_method_90_code 127 = .ok (.iconst 3, 1) := by decide +kernel
theorem d_mo_tellsTune_128 : decode prog_13_method_90_code 128 = .ok (.iconst (-1), 1) := by decide +kernel
theorem d_mo_tellsTune_129 : decode prog_13_method_90_code 129 = .ok (.invokevirtual 231, 3) := by decide +kernel
theorem d_mo_tellsTune_132 : decode prog_13_method_90_code 132 = .ok (.i2l, 1) := by decide +kernel
theorem d_mo_tellsTune_133 : decode prog_13_method_90_code 133 = .ok (.ladd, 1) := by decide +kernel
theorem d_mo_tellsTune_134 : decode prog_13_method_90_code 134 = .ok (.lstore 4, 2) := by decide +kernel
theorem d_mo_tellsTune_136 : decode prog_13_method_90_code 136 = .ok (.ldc2_w 299, 3) := by decide +kernel
theorem d_mo_tellsTune_139 : decode prog_13_method_90_code 139 = .ok (.lload 4, 2) := by decide +kernel
theorem d_mo_tellsTune_141 : decode prog_13_method_90_code 141 = .ok (.lmul, 1) := by decide +kernel
theorem d_mo_tellsTune_142 : decode prog_13_method_90_code 142 = .ok (.aload_n 0, 1) := by decide +kernel
theorem d_mo_tellsTune_143 : decode prog_13_method_90_code 143 = .ok (.iload_n 3, 1) := by decide +kernel
theorem d_mo_tellsTune_144 : decode prog_13_method_90_code 144 = .ok (.iconst 3, 1) := by decide +kernel
theorem d_mo_tellsTune_145 : decode prog_13_method_90_code 145 = .ok (.iconst 0, 1) := by decide +kernel
theorem d_mo_tellsTune_146 : decode prog_13_method_90_code 146 = .ok (.invokevirtual 231, 3) := by decide +kernel
theorem d_mo_tellsTune_149 : decode prog_13_method_90_code 149 = .ok (.i2l, 1) := by decide +kernel
theorem d_mo_tellsTune_150 : decode prog_13_method_90_code 150 = .ok (.ladd, 1) := by decide +kernel
theorem d_mo_tellsTune_151 : decode prog_13_method_90_code 151 = .ok (.lstore 4, 2) := by decide +kernel
theorem d_mo_tellsTune_153 : decode prog_13_method_90_code 153 = .ok (.ldc2_w 299, 3) := by decide +kernel
theorem d_mo_tellsTune_156 : decode prog_13_method_90_code 156 = .ok (.lload 4, 2) := by decide +kernel
theorem d_mo_tellsTune_158 : decode prog_13_method_90_code 158 = .ok (.lmul, 1) := by decide +kernel
theorem d_mo_tellsTune_159 : decode prog_13_method_90_code 159 = .ok (.aload_n 0, 1) := by decide +kernel
theorem d_mo_tellsTune_160 : decode prog_13_method_90_code 160 = .ok (.iconst 0, 1) := by decide +kernel
theorem d_mo_tellsTune_161 : decode prog_13_method_90_code 161 = .ok (.iload_n 3, 1) := by decide +kernel
theorem d_mo_tellsTune_162 : decode prog_13_method_90_code 162 = .ok (.iconst 0, 1) := by decide +kernel
theorem d_mo_tellsTune_163 : decode prog_13_method_90_code 163 = .ok (.invokevirtual 240, 3) := by decide +kernel
theorem d_mo_tellsTune_166 : decode prog_13_method_90_code 166 = .ok (.i2l, 1) := by decide +kernel
theorem d_mo_tellsTune_167 : decode prog_13_method_90_code 167 = .ok (.ladd, 1) := by decide +kernel
theorem d_mo_tellsTune_168 : decode prog_13_method_90_code 168 = .ok (.lstore 4, 2) := by decide +kernel
theorem d_mo_tellsTune_170 : decode prog_13_method_90_code 170 = .ok (.ldc2_w 299, 3) := by decide +kernel
theorem d_mo_tellsTune_173 : decode prog_13_method_90_code 173 = .ok (.lload 4, 2) := by decide +kernel
theorem d_mo_tellsTune_175 : decode prog_13_method_90_code 175 = .ok (.lmul, 1) := by decide +kernel
theorem d_mo_tellsTune_176 : decode prog_13_method_90_code 176 = .ok (.aload_n 0, 1) := by decide +kernel
theorem d_mo_tellsTune_177 : decode prog_13_method_90_code 177 = .ok (.iconst 0, 1) := by decide +kernel
theorem d_mo_tellsTune_178 : decode prog_13_method_90_code 178 = .ok (.iload_n 3, 1) := by decide +kernel
theorem d_mo_tellsTune_179 : decode prog_13_method_90_code 179 = .ok (.iconst 1, 1) := by decide +kernel
theorem d_mo_tellsTune_180 : decode prog_13_method_90_code 180 = .ok (.invokevirtual 240, 3) := by decide +kernel
theorem d_mo_tellsTune_183 : decode prog_13_method_90_code 183 = .ok (.i2l, 1) := by decide +kernel
theorem d_mo_tellsTune_184 : decode prog_13_method_90_code 184 = .ok (.ladd, 1) := by decide +kernel
theorem d_mo_tellsTune_185 : decode prog_13_method_90_code 185 = .ok (.lstore 4, 2) := by decide +kernel
theorem d_mo_tellsTune_187 : decode prog_13_method_90_code 187 = .ok (.ldc2_w 299, 3) := by decide +kernel
theorem d_mo_tellsTune_190 : decode prog_13_method_90_code 190 = .ok (.lload 4, 2) := by decide +kernel
theorem d_mo_tellsTune_192 : decode prog_13_method_90_code 192 = .ok (.lmul, 1) := by decide +kernel
theorem d_mo_tellsTune_193 : decode prog_13_method_90_code 193 = .ok (.aload_n 0, 1) := by decide +kernel
theorem d_mo_tellsTune_194 : decode prog_13_method_90_code 194 = .ok (.iconst 0, 1) := by decide +kernel
theorem d_mo_tellsTune_195 : decode prog_13_method_90_code 195 = .ok (.iload_n 3, 1) := by decide +kernel
theorem d_mo_tellsTune_196 : decode prog_13_method_90_code 196 = .ok (.invokevirtual 246, 3) := by decide +kernel
theorem d_mo_tellsTune_199 : decode prog_13_method_90_code 199 = .ok (.i2l, 1) := by decide +kernel
theorem d_mo_tellsTune_200 : decode prog_13_method_90_code 200 = .ok (.ladd, 1) := by decide +kernel
theorem d_mo_tellsTune_201 : decode prog_13_method_90_code 201 = .ok (.lstore 4, 2) := by decide +kernel
theorem d_mo_tellsTune_203 : decode prog_13_method_90_code 203 = .ok (.ldc2_w 299, 3) := by decide +kernel
theorem d_mo_tellsTune_206 : decode prog_13_method_90_code 206 = .ok (.lload 4, 2) := by decide +kernel
theorem d_mo_tellsTune_208 : decode prog_13_method_90_code 208 = .ok (.lmul, 1) := by decide +kernel
theorem d_mo_tellsTune_209 : decode prog_13_method_90_code 209 = .ok (.aload_n 0, 1) := by decide +kernel
theorem d_mo_tellsTune_210 : decode prog_13_method_90_code 210 = .ok (.iload_n 3, 1) := by decide +kernel
theorem d_mo_tellsTune_211 : decode prog_13_method_90_code 211 = .ok (.invokevirtual 249, 3) := by decide +kernel
theorem d_mo_tellsTune_214 : decode prog_13_method_90_code 214 = .ok (.i2l, 1) := by decide +kernel
theorem d_mo_tellsTune_215 : decode prog_13_method_90_code 215 = .ok (.ladd, 1) := by decide +kernel
theorem d_mo_tellsTune_216 : decode prog_13_method_90_code 216 = .ok (.lstore 4, 2) := by decide +kernel
theorem d_mo_tellsTune_218 : decode prog_13_method_90_code 218 = .ok (.ldc2_w 299, 3) := by decide +kernel
theorem d_mo_tellsTune_221 : decode prog_13_method_90_code 221 = .ok (.lload 4, 2) := by decide +kernel
theorem d_mo_tellsTune_223 : decode prog_13_method_90_code 223 = .ok (.lmul, 1) := by decide +kernel
theorem d_mo_tellsTune_224 : decode prog_13_method_90_code 224 = .ok (.aload_n 0, 1) := by decide +kernel
theorem d_mo_tellsTune_225 : decode prog_13_method_90_code 225 = .ok (.iload_n 3, 1) := by decide +kernel
theorem d_mo_tellsTune_226 : decode prog_13_method_90_code 226 = .ok (.invokevirtual 252, 3) := by decide +kernel
theorem d_mo_tellsTune_229 : decode prog_13_method_90_code 229 = .ok (.i2l, 1) := by decide +kernel
theorem d_mo_tellsTune_230 : decode prog_13_method_90_code 230 = .ok (.ladd, 1) := by decide +kernel
theorem d_mo_tellsTune_231 : decode prog_13_method_90_code 231 = .ok (.lstore 4, 2) := by decide +kernel
theorem d_mo_tellsTune_233 : decode prog_13_method_90_code 233 = .ok (.aload_n 0, 1) := by decide +kernel
theorem d_mo_tellsTune_234 : decode prog_13_method_90_code 234 = .ok (.iload_n 3, 1) := by decide +kernel
theorem d_mo_tellsTune_235 : decode prog_13_method_90_code 235 = .ok (.invokevirtual 265, 3) := by decide +kernel
theorem d_mo_tellsTune_238 : decode prog_13_method_90_code 238 = .ok (.istore 6, 2) := by decide +kernel
theorem d_mo_tellsTune_240 : decode prog_13_method_90_code 240 = .ok (.ldc2_w 299, 3) := by decide +kernel
theorem d_mo_tellsTune_243 : decode prog_13_method_90_code 243 = .ok (.lload 4, 2) := by decide +kernel
theorem d_mo_tellsTune_245 : decode prog_13_method_90_code 245 = .ok (.lmul, 1) := by decide +kernel
theorem d_mo_tellsTune_246 : decode prog_13_method_90_code 246 = .ok (.iload 6, 2) := by decide +kernel
theorem d_mo_tellsTune_248 : decode prog_13_method_90_code 248 = .ok (.iconst 0, 1) := by decide +kernel
theorem d_mo_tellsTune_249 : decode prog_13_method_90_code 249 = .ok (.invokestatic 268, 3) := by decide +kernel
theorem d_mo_tellsTune_252 : decode prog_13_method_90_code 252 = .ok (.i2l, 1) := by decide +kernel
theorem d_mo_tellsTune_253 : decode prog_13_method_90_code 253 = .ok (.ladd, 1) := by decide +kernel
theorem d_mo_tellsTune_254 : decode prog_13_method_90_code 254 = .ok (.lstore 4, 2) := by decide +kernel
theorem d_mo_tellsTune_256 : decode prog_13_method_90_code 256 = .ok (.ldc2_w 299, 3) := by decide +kernel
theorem d_mo_tellsTune_259 : decode prog_13_method_90_code 259 = .ok (.lload 4, 2) := by decide +kernel
theorem d_mo_tellsTune_261 : decode prog_13_method_90_code 261 = .ok (.lmul, 1) := by decide +kernel
theorem d_mo_tellsTune_262 : decode prog_13_method_90_code 262 = .ok (.iload 6, 2) := by decide +kernel
theorem d_mo_tellsTune_264 : decode prog_13_method_90_code 264 = .ok (.iconst 1, 1) := by decide +kernel
theorem d_mo_tellsTune_265 : decode prog_13_method_90_code 265 = .ok (.invokestatic 268, 3) := by decide +kernel
theorem d_mo_tellsTune_268 : decode prog_13_method_90_code 268 = .ok (.i2l, 1) := by decide +kernel
theorem d_mo_tellsTune_269 : decode prog_13_method_90_code 269 = .ok (.ladd, 1) := by decide +kernel
theorem d_mo_tellsTune_270 : decode prog_13_method_90_code 270 = .ok (.lstore 4, 2) := by decide +kernel
theorem d_mo_tellsTune_272 : decode prog_13_method_90_code 272 = .ok (.ldc2_w 299, 3) := by decide +kernel
theorem d_mo_tellsTune_275 : decode prog_13_method_90_code 275 = .ok (.lload 4, 2) := by decide +kernel
theorem d_mo_tellsTune_277 : decode prog_13_method_90_code 277 = .ok (.lmul, 1) := by decide +kernel
theorem d_mo_tellsTune_278 : decode prog_13_method_90_code 278 = .ok (.aload_n 0, 1) := by decide +kernel
theorem d_mo_tellsTune_279 : decode prog_13_method_90_code 279 = .ok (.bipush 7, 2) := by decide +kernel
theorem d_mo_tellsTune_281 : decode prog_13_method_90_code 281 = .ok (.bipush 9, 2) := by decide +kernel
theorem d_mo_tellsTune_283 : decode prog_13_method_90_code 283 = .ok (.iload_n 3, 1) := by decide +kernel
theorem d_mo_tellsTune_284 : decode prog_13_method_90_code 284 = .ok (.invokevirtual 296, 3) := by decide +kernel
theorem d_mo_tellsTune_287 : decode prog_13_method_90_code 287 = .ok (.i2l, 1) := by decide +kernel
theorem d_mo_tellsTune_288 : decode prog_13_method_90_code 288 = .ok (.ladd, 1) := by decide +kernel
theorem d_mo_tellsTune_289 : decode prog_13_method_90_code 289 = .ok (.lstore 4, 2) := by decide +kernel
theorem d_mo_tellsTune_291 : decode prog_13_method_90_code 291 = .ok (.ldc2_w 299, 3) := by decide +kernel
theorem d_mo_tellsTune_294 : decode prog_13_method_90_code 294 = .ok (.lload 4, 2) := by decide +kernel
theorem d_mo_tellsTune_296 : decode prog_13_method_90_code 296 = .ok (.lmul, 1) := by decide +kernel
theorem d_mo_tellsTune_297 : decode prog_13_method_90_code 297 = .ok (.aload_n 0, 1) := by decide +kernel
theorem d_mo_tellsTune_298 : decode prog_13_method_90_code 298 = .ok (.iconst 5, 1) := by decide +kernel
theorem d_mo_tellsTune_299 : decode prog_13_method_90_code 299 = .ok (.iload_n 3, 1) := by decide +kernel
theorem d_mo_tellsTune_300 : decode prog_13_method_90_code 300 = .ok (.iconst 0, 1) := by decide +kernel
theorem d_mo_tellsTune_301 : decode prog_13_method_90_code 301 = .ok (.iconst 4, 1) := by decide +kernel
theorem d_mo_tellsTune_302 : decode prog_13_method_90_code 302 = .ok (.bipush 9, 2) := by decide +kernel
theorem d_mo_tellsTune_304 : decode prog_13_method_90_code 304 = .ok (.iconst 0, 1) := by decide +kernel
theorem d_mo_tellsTune_305 : decode prog_13_method_90_code 305 = .ok (.invokevirtual 301, 3) := by decide +kernel
theorem d_mo_tellsTune_308 : decode prog_13_method_90_code 308 = .ok (.ladd, 1) := by decide +kernel
theorem d_mo_tellsTune_309 : decode prog_13_method_90_code 309 = .ok (.lstore 4, 2) := by decide +kernel
theorem d_mo_tellsTune_311 : decode prog_13_method_90_code 311 = .ok (.ldc2_w 299, 3) := by decide +kernel
theorem d_mo_tellsTune_314 : decode prog_13_method_90_code 314 = .ok (.lload 4, 2) := by decide +kernel
theorem d_mo_tellsTune_316 : decode prog_13_method_90_code 316 = .ok (.lmul, 1) := by decide +kernel
theorem d_mo_tellsTune_317 : decode prog_13_method_90_code 317 = .ok (.aload_n 0, 1) := by decide +kernel
theorem d_mo_tellsTune_318 : decode prog_13_method_90_code 318 = .ok (.iconst 5, 1) := by decide +kernel
theorem d_mo_tellsTune_319 : decode prog_13_method_90_code 319 = .ok (.iload_n 3, 1) := by decide +kernel
theorem d_mo_tellsTune_320 : decode prog_13_method_90_code 320 = .ok (.iconst 0, 1) := by decide +kernel
theorem d_mo_tellsTune_321 : decode prog_13_method_90_code 321 = .ok (.iconst 4, 1) := by decide +kernel
theorem d_mo_tellsTune_322 : decode prog_13_method_90_code 322 = .ok (.bipush 9, 2) := by decide +kernel
theorem d_mo_tellsTune_324 : decode prog_13_method_90_code 324 = .ok (.iconst 1, 1) := by decide +kernel
theorem d_mo_tellsTune_325 : decode prog_13_method_90_code 325 = .ok (.invokevirtual 301, 3) := by decide +kernel
theorem d_mo_tellsTune_328 : decode prog_13_method_90_code 328 = .ok (.ladd, 1) := by decide +kernel
theorem d_mo_tellsTune_329 : decode prog_13_method_90_code 329 = .ok (.lreturn, 1) := by decide +kernel
theorem d_mo_digest_0 : decode prog_13_method_91_code 0 = .ok (.ldc2_w 304, 3) := by decide +kernel
theorem d_mo_digest_3 : decode prog_13_method_91_code 3 = .ok (.lstore_n 1, 1) := by decide +kernel
theorem d_mo_digest_4 : decode prog_13_method_91_code 4 = .ok (.iconst 0, 1) := by decide +kernel
theorem d_mo_digest_5 : decode prog_13_method_91_code 5 = .ok (.istore_n 3, 1) := by decide +kernel
theorem d_mo_digest_6 : decode prog_13_method_91_code 6 = .ok (.iload_n 3, 1) := by decide +kernel
theorem d_mo_digest_7 : decode prog_13_method_91_code 7 = .ok (.bipush 8, 2) := by decide +kernel
theorem d_mo_digest_9 : decode prog_13_method_91_code 9 = .ok (.if_icmp .ge 22, 3) := by decide +kernel
theorem d_mo_digest_12 : decode prog_13_method_91_code 12 = .ok (.ldc2_w 299, 3) := by decide +kernel
theorem d_mo_digest_15 : decode prog_13_method_91_code 15 = .ok (.lload_n 1, 1) := by decide +kernel
theorem d_mo_digest_16 : decode prog_13_method_91_code 16 = .ok (.lmul, 1) := by decide +kernel
theorem d_mo_digest_17 : decode prog_13_method_91_code 17 = .ok (.aload_n 0, 1) := by decide +kernel
theorem d_mo_digest_18 : decode prog_13_method_91_code 18 = .ok (.iload_n 3, 1) := by decide +kernel
theorem d_mo_digest_19 : decode prog_13_method_91_code 19 = .ok (.invokevirtual 306, 3) := by decide +kernel
theorem d_mo_digest_22 : decode prog_13_method_91_code 22 = .ok (.i2l, 1) := by decide +kernel
theorem d_mo_digest_23 : decode prog_13_method_91_code 23 = .ok (.ladd, 1) := by decide +kernel
theorem d_mo_digest_24 : decode prog_13_method_91_code 24 = .ok (.lstore_n 1, 1) := by decide +kernel
theorem d_mo_digest_25 : decode prog_13_method_91_code 25 = .ok (.iinc 3 1, 3) := by decide +kernel
theorem d_mo_digest_28 : decode prog_13_method_91_code 28 = .ok (.goto (-22), 3) := by decide +kernel
theorem d_mo_digest_31 : decode prog_13_method_91_code 31 = .ok (.ldc2_w 299, 3) := by decide +kernel
theorem d_mo_digest_34 : decode prog_13_method_91_code 34 = .ok (.lload_n 1, 1) := by decide +kernel
theorem d_mo_digest_35 : decode prog_13_method_91_code 35 = .ok (.lmul, 1) := by decide +kernel
theorem d_mo_digest_36 : decode prog_13_method_91_code 36 = .ok (.aload_n 0, 1) := by decide +kernel
theorem d_mo_digest_37 : decode prog_13_method_91_code 37 = .ok (.invokevirtual 128, 3) := by decide +kernel
theorem d_mo_digest_40 : decode prog_13_method_91_code 40 = .ok (.i2l, 1) := by decide +kernel
theorem d_mo_digest_41 : decode prog_13_method_91_code 41 = .ok (.ladd, 1) := by decide +kernel
theorem d_mo_digest_42 : decode prog_13_method_91_code 42 = .ok (.lstore_n 1, 1) := by decide +kernel
theorem d_mo_digest_43 : decode prog_13_method_91_code 43 = .ok (.ldc2_w 299, 3) := by decide +kernel
theorem d_mo_digest_46 : decode prog_13_method_91_code 46 = .ok (.lload_n 1, 1) := by decide +kernel
theorem d_mo_digest_47 : decode prog_13_method_91_code 47 = .ok (.lmul, 1) := by decide +kernel
theorem d_mo_digest_48 : decode prog_13_method_91_code 48 = .ok (.aload_n 0, 1) := by decide +kernel
theorem d_mo_digest_49 : decode prog_13_method_91_code 49 = .ok (.invokevirtual 132, 3) := by decide +kernel
theorem d_mo_digest_52 : decode prog_13_method_91_code 52 = .ok (.i2l, 1) := by decide +kernel
theorem d_mo_digest_53 : decode prog_13_method_91_code 53 = .ok (.ladd, 1) := by decide +kernel
theorem d_mo_digest_54 : decode prog_13_method_91_code 54 = .ok (.lstore_n 1, 1) := by decide +kernel
theorem d_mo_digest_55 : decode prog_13_method_91_code 55 = .ok (.iconst 0, 1) := by decide +kernel
theorem d_mo_digest_56 : decode prog_13_method_91_code 56 = .ok (.istore_n 3, 1) := by decide +kernel
theorem d_mo_digest_57 : decode prog_13_method_91_code 57 = .ok (.iload_n 3, 1) := by decide +kernel
theorem d_mo_digest_58 : decode prog_13_method_91_code 58 = .ok (.aload_n 0, 1) := by decide +kernel
theorem d_mo_digest_59 : decode prog_13_method_91_code 59 = .ok (.getfield 112, 3) := by decide +kernel
theorem d_mo_digest_62 : decode prog_13_method_91_code 62 = .ok (.if_icmp .ge 16, 3) := by decide +kernel
theorem d_mo_digest_65 : decode prog_13_method_91_code 65 = .ok (.aload_n 0, 1) := by decide +kernel
theorem d_mo_digest_66 : decode prog_13_method_91_code 66 = .ok (.lload_n 1, 1) := by decide +kernel
theorem d_mo_digest_67 : decode prog_13_method_91_code 67 = .ok (.iload_n 3, 1) := by decide +kernel
theorem d_mo_digest_68 : decode prog_13_method_91_code 68 = .ok (.invokevirtual 309, 3) := by decide +kernel
theorem d_mo_digest_71 : decode prog_13_method_91_code 71 = .ok (.lstore_n 1, 1) := by decide +kernel
theorem d_mo_digest_72 : decode prog_13_method_91_code 72 = .ok (.iinc 3 1, 3) := by decide +kernel
theorem d_mo_digest_75 : decode prog_13_method_91_code 75 = .ok (.goto (-18), 3) := by decide +kernel
theorem d_mo_digest_78 : decode prog_13_method_91_code 78 = .ok (.iconst 0, 1) := by decide +kernel
theorem d_mo_digest_79 : decode prog_13_method_91_code 79 = .ok (.istore_n 3, 1) := by decide +kernel
theorem d_mo_digest_80 : decode prog_13_method_91_code 80 = .ok (.iload_n 3, 1) := by decide +kernel
theorem d_mo_digest_81 : decode prog_13_method_91_code 81 = .ok (.aload_n 0, 1) := by decide +kernel
theorem d_mo_digest_82 : decode prog_13_method_91_code 82 = .ok (.getfield 122, 3) := by decide +kernel
theorem d_mo_digest_85 : decode prog_13_method_91_code 85 = .ok (.if_icmp .ge 43, 3) := by decide +kernel
theorem d_mo_digest_88 : decode prog_13_method_91_code 88 = .ok (.iconst 0, 1) := by decide +kernel
theorem d_mo_digest_89 : decode prog_13_method_91_code 89 = .ok (.istore 4, 2) := by decide +kernel
theorem d_mo_digest_91 : decode prog_13_method_91_code 91 = .ok (.iload 4, 2) := by decide +kernel
theorem d_mo_digest_93 : decode prog_13_method_91_code 93 = .ok (.iconst 3, 1) := by decide +kernel
theorem d_mo_digest_94 : decode prog_13_method_91_code 94 = .ok (.if_icmp .ge 28, 3) := by decide +kernel
theorem d_mo_digest_97 : decode prog_13_method_91_code 97 = .ok (.ldc2_w 299, 3) := by decide +kernel
theorem d_mo_digest_100 : decode prog_13_method_91_code 100 = .ok (.lload_n 1, 1) := by decide +kernel
theorem d_mo_digest_101 : decode prog_13_method_91_code 101 = .ok (.lmul, 1) := by decide +kernel
theorem d_mo_digest_102 : decode prog_13_method_91_code 102 = .ok (.aload_n 0, 1) := by decide +kernel
theorem d_mo_digest_103 : decode prog_13_method_91_code 103 = .ok (.getfield 34, 3) := by decide +kernel
theorem d_mo_digest_106 : decode prog_13_method_91_code 106 = .ok (.iconst 3, 1) := by decide +kernel
theorem d_mo_digest_107 : decode prog_13_method_91_code 107 = .ok (.iload_n 3, 1) := by decide +kernel
theorem d_mo_digest_108 : decode prog_13_method_91_code 108 = .ok (.imul, 1) := by decide +kernel
theorem d_mo_digest_109 : decode prog_13_method_91_code 109 = .ok (.iload 4, 2) := by decide +kernel
theorem d_mo_digest_111 : decode prog_13_method_91_code 111 = .ok (.iadd, 1) := by decide +kernel
theorem d_mo_digest_112 : decode prog_13_method_91_code 112 = .ok (.iaload, 1) := by decide +kernel
theorem d_mo_digest_113 : decode prog_13_method_91_code 113 = .ok (.i2l, 1) := by decide +kernel
theorem d_mo_digest_114 : decode prog_13_method_91_code 114 = .ok (.ladd, 1) := by decide +kernel
theorem d_mo_digest_115 : decode prog_13_method_91_code 115 = .ok (.lstore_n 1, 1) := by decide +kernel
theorem d_mo_digest_116 : decode prog_13_method_91_code 116 = .ok (.iinc 4 1, 3) := by decide +kernel
theorem d_mo_digest_119 : decode prog_13_method_91_code 119 = .ok (.goto (-28), 3) := by decide +kernel
theorem d_mo_digest_122 : decode prog_13_method_91_code 122 = .ok (.iinc 3 1, 3) := by decide +kernel
theorem d_mo_digest_125 : decode prog_13_method_91_code 125 = .ok (.goto (-45), 3) := by decide +kernel
theorem d_mo_digest_128 : decode prog_13_method_91_code 128 = .ok (.iconst 0, 1) := by decide +kernel
theorem d_mo_digest_129 : decode prog_13_method_91_code 129 = .ok (.istore_n 3, 1) := by decide +kernel
theorem d_mo_digest_130 : decode prog_13_method_91_code 130 = .ok (.iload_n 3, 1) := by decide +kernel
theorem d_mo_digest_131 : decode prog_13_method_91_code 131 = .ok (.aload_n 0, 1) := by decide +kernel
theorem d_mo_digest_132 : decode prog_13_method_91_code 132 = .ok (.getfield 157, 3) := by decide +kernel
theorem d_mo_digest_135 : decode prog_13_method_91_code 135 = .ok (.if_icmp .ge 39, 3) := by decide +kernel
theorem d_mo_digest_138 : decode prog_13_method_91_code 138 = .ok (.iconst 0, 1) := by decide +kernel
theorem d_mo_digest_139 : decode prog_13_method_91_code 139 = .ok (.istore 4, 2) := by decide +kernel
theorem d_mo_digest_141 : decode prog_13_method_91_code 141 = .ok (.iload 4, 2) := by decide +kernel
theorem d_mo_digest_143 : decode prog_13_method_91_code 143 = .ok (.iconst 3, 1) := by decide +kernel
theorem d_mo_digest_144 : decode prog_13_method_91_code 144 = .ok (.if_icmp .ge 24, 3) := by decide +kernel
theorem d_mo_digest_147 : decode prog_13_method_91_code 147 = .ok (.ldc2_w 299, 3) := by decide +kernel
theorem d_mo_digest_150 : decode prog_13_method_91_code 150 = .ok (.lload_n 1, 1) := by decide +kernel
theorem d_mo_digest_151 : decode prog_13_method_91_code 151 = .ok (.lmul, 1) := by decide +kernel
theorem d_mo_digest_152 : decode prog_13_method_91_code 152 = .ok (.aload_n 0, 1) := by decide +kernel
theorem d_mo_digest_153 : decode prog_13_method_91_code 153 = .ok (.iload_n 3, 1) := by decide +kernel
theorem d_mo_digest_154 : decode prog_13_method_91_code 154 = .ok (.iload 4, 2) := by decide +kernel
theorem d_mo_digest_156 : decode prog_13_method_91_code 156 = .ok (.invokevirtual 204, 3) := by decide +kernel
theorem d_mo_digest_159 : decode prog_13_method_91_code 159 = .ok (.i2l, 1) := by decide +kernel
theorem d_mo_digest_160 : decode prog_13_method_91_code 160 = .ok (.ladd, 1) := by decide +kernel
theorem d_mo_digest_161 : decode prog_13_method_91_code 161 = .ok (.lstore_n 1, 1) := by decide +kernel
theorem d_mo_digest_162 : decode prog_13_method_91_code 162 = .ok (.iinc 4 1, 3) := by decide +kernel
theorem d_mo_digest_165 : decode prog_13_method_91_code 165 = .ok (.goto (-24), 3) := by decide +kernel
theorem d_mo_digest_168 : decode prog_13_method_91_code 168 = .ok (.iinc 3 1, 3) := by decide +kernel
theorem d_mo_digest_171 : decode prog_13_method_91_code 171 = .ok (.goto (-41), 3) := by decide +kernel
theorem d_mo_digest_174 : decode prog_13_method_91_code 174 = .ok (.ldc2_w 299, 3) := by decide +kernel
theorem d_mo_digest_177 : decode prog_13_method_91_code 177 = .ok (.lload_n 1, 1) := by decide +kernel
theorem d_mo_digest_178 : decode prog_13_method_91_code 178 = .ok (.lmul, 1) := by decide +kernel
theorem d_mo_digest_179 : decode prog_13_method_91_code 179 = .ok (.aload_n 0, 1) := by decide +kernel
theorem d_mo_digest_180 : decode prog_13_method_91_code 180 = .ok (.iconst 0, 1) := by decide +kernel
theorem d_mo_digest_181 : decode prog_13_method_91_code 181 = .ok (.aload_n 0, 1) := by decide +kernel
theorem d_mo_digest_182 : decode prog_13_method_91_code 182 = .ok (.getfield 73, 3) := by decide +kernel
theorem d_mo_digest_185 : decode prog_13_method_91_code 185 = .ok (.invokevirtual 207, 3) := by decide +kernel
theorem d_mo_digest_188 : decode prog_13_method_91_code 188 = .ok (.i2l, 1) := by decide +kernel
theorem d_mo_digest_189 : decode prog_13_method_91_code 189 = .ok (.ladd, 1) := by decide +kernel
theorem d_mo_digest_190 : decode prog_13_method_91_code 190 = .ok (.lstore_n 1, 1) := by decide +kernel
theorem d_mo_digest_191 : decode prog_13_method_91_code 191 = .ok (.ldc2_w 299, 3) := by decide +kernel
theorem d_mo_digest_194 : decode prog_13_method_91_code 194 = .ok (.lload_n 1, 1) := by decide +kernel
theorem d_mo_digest_195 : decode prog_13_method_91_code 195 = .ok (.lmul, 1) := by decide +kernel
theorem d_mo_digest_196 : decode prog_13_method_91_code 196 = .ok (.aload_n 0, 1) := by decide +kernel
theorem d_mo_digest_197 : decode prog_13_method_91_code 197 = .ok (.bipush 9, 2) := by decide +kernel
theorem d_mo_digest_199 : decode prog_13_method_91_code 199 = .ok (.aload_n 0, 1) := by decide +kernel
theorem d_mo_digest_200 : decode prog_13_method_91_code 200 = .ok (.getfield 73, 3) := by decide +kernel
theorem d_mo_digest_203 : decode prog_13_method_91_code 203 = .ok (.invokevirtual 207, 3) := by decide +kernel
theorem d_mo_digest_206 : decode prog_13_method_91_code 206 = .ok (.i2l, 1) := by decide +kernel
theorem d_mo_digest_207 : decode prog_13_method_91_code 207 = .ok (.ladd, 1) := by decide +kernel
theorem d_mo_digest_208 : decode prog_13_method_91_code 208 = .ok (.lstore_n 1, 1) := by decide +kernel
theorem d_mo_digest_209 : decode prog_13_method_91_code 209 = .ok (.ldc2_w 299, 3) := by decide +kernel
theorem d_mo_digest_212 : decode prog_13_method_91_code 212 = .ok (.lload_n 1, 1) := by decide +kernel
theorem d_mo_digest_213 : decode prog_13_method_91_code 213 = .ok (.lmul, 1) := by decide +kernel
theorem d_mo_digest_214 : decode prog_13_method_91_code 214 = .ok (.aload_n 0, 1) := by decide +kernel
theorem d_mo_digest_215 : decode prog_13_method_91_code 215 = .ok (.bipush 39, 2) := by decide +kernel
theorem d_mo_digest_217 : decode prog_13_method_91_code 217 = .ok (.aload_n 0, 1) := by decide +kernel
theorem d_mo_digest_218 : decode prog_13_method_91_code 218 = .ok (.getfield 73, 3) := by decide +kernel
theorem d_mo_digest_221 : decode prog_13_method_91_code 221 = .ok (.invokevirtual 207, 3) := by decide +kernel
theorem d_mo_digest_224 : decode prog_13_method_91_code 224 = .ok (.i2l, 1) := by decide +kernel
theorem d_mo_digest_225 : decode prog_13_method_91_code 225 = .ok (.ladd, 1) := by decide +kernel
theorem d_mo_digest_226 : decode prog_13_method_91_code 226 = .ok (.lstore_n 1, 1) := by decide +kernel
theorem d_mo_digest_227 : decode prog_13_method_91_code 227 = .ok (.ldc2_w 299, 3) := by decide +kernel
theorem d_mo_digest_230 : decode prog_13_method_91_code 230 = .ok (.lload_n 1, 1) := by decide +kernel
theorem d_mo_digest_231 : decode prog_13_method_91_code 231 = .ok (.lmul, 1) := by decide +kernel
theorem d_mo_digest_232 : decode prog_13_method_91_code 232 = .ok (.aload_n 0, 1) := by decide +kernel
theorem d_mo_digest_233 : decode prog_13_method_91_code 233 = .ok (.iconst 3, 1) := by decide +kernel
theorem d_mo_digest_234 : decode prog_13_method_91_code 234 = .ok (.invokevirtual 210, 3) := by decide +kernel
theorem d_mo_digest_237 : decode prog_13_method_91_code 237 = .ok (.i2l, 1) := by decide +kernel
theorem d_mo_digest_238 : decode prog_13_method_91_code 238 = .ok (.ladd, 1) := by decide +kernel
theorem d_mo_digest_239 : decode prog_13_method_91_code 239 = .ok (.lstore_n 1, 1) := by decide +kernel
theorem d_mo_digest_240 : decode prog_13_method_91_code 240 = .ok (.ldc2_w 299, 3) := by decide +kernel
theorem d_mo_digest_243 : decode prog_13_method_91_code 243 = .ok (.lload_n 1, 1) := by decide +kernel
theorem d_mo_digest_244 : decode prog_13_method_91_code 244 = .ok (.lmul, 1) := by decide +kernel
theorem d_mo_digest_245 : decode prog_13_method_91_code 245 = .ok (.aload_n 0, 1) := by decide +kernel
theorem d_mo_digest_246 : decode prog_13_method_91_code 246 = .ok (.bipush 9, 2) := by decide +kernel
theorem d_mo_digest_248 : decode prog_13_method_91_code 248 = .ok (.invokevirtual 271, 3) := by decide +kernel
theorem d_mo_digest_251 : decode prog_13_method_91_code 251 = .ok (.i2l, 1) := by decide +kernel
theorem d_mo_digest_252 : decode prog_13_method_91_code 252 = .ok (.ladd, 1) := by decide +kernel
theorem d_mo_digest_253 : decode prog_13_method_91_code 253 = .ok (.lstore_n 1, 1) := by decide +kernel
theorem d_mo_digest_254 : decode prog_13_method_91_code 254 = .ok (.ldc2_w 299, 3) := by decide +kernel
theorem d_mo_digest_257 : decode prog_13_method_91_code 257 = .ok (.lload_n 1, 1) := by decide +kernel
theorem d_mo_digest_258 : decode prog_13_method_91_code 258 = .ok (.lmul, 1) := by decide +kernel
theorem d_mo_digest_259 : decode prog_13_method_91_code 259 = .ok (.aload_n 0, 1) := by decide +kernel
theorem d_mo_digest_260 : decode prog_13_method_91_code 260 = .ok (.iconst 1, 1) := by decide +kernel
theorem d_mo_digest_261 : decode prog_13_method_91_code 261 = .ok (.invokevirtual 276, 3) := by decide +kernel
theorem d_mo_digest_264 : decode prog_13_method_91_code 264 = .ok (.i2l, 1) := by decide +kernel
theorem d_mo_digest_265 : decode prog_13_method_91_code 265 = .ok (.ladd, 1) := by decide +kernel
theorem d_mo_digest_266 : decode prog_13_method_91_code 266 = .ok (.lreturn, 1) := by decide +kernel
