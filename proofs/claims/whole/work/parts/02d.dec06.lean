theorem d_mo_commonOf_0 : decode prog_13_method_40_code 0 = .ok (.iconst 0, 1) := by decide +kernel
theorem d_mo_commonOf_1 : decode prog_13_method_40_code 1 = .ok (.istore 7, 2) := by decide +kernel
theorem d_mo_commonOf_3 : decode prog_13_method_40_code 3 = .ok (.iload 7, 2) := by decide +kernel
theorem d_mo_commonOf_5 : decode prog_13_method_40_code 5 = .ok (.iload 6, 2) := by decide +kernel
theorem d_mo_commonOf_7 : decode prog_13_method_40_code 7 = .ok (.if_icmp .gt 17, 3) := by decide +kernel
theorem d_mo_commonOf_10 : decode prog_13_method_40_code 10 = .ok (.aload_n 0, 1) := by decide +kernel
theorem d_mo_commonOf_11 : decode prog_13_method_40_code 11 = .ok (.getfield 70, 3) := by decide +kernel
theorem d_mo_commonOf_14 : decode prog_13_method_40_code 14 = .ok (.iload 7, 2) := by decide +kernel
theorem d_mo_commonOf_16 : decode prog_13_method_40_code 16 = .ok (.iconst 0, 1) := by decide +kernel
theorem d_mo_commonOf_17 : decode prog_13_method_40_code 17 = .ok (.iastore, 1) := by decide +kernel
theorem d_mo_commonOf_18 : decode prog_13_method_40_code 18 = .ok (.iinc 7 1, 3) := by decide +kernel
theorem d_mo_commonOf_21 : decode prog_13_method_40_code 21 = .ok (.goto (-18), 3) := by decide +kernel
theorem d_mo_commonOf_24 : decode prog_13_method_40_code 24 = .ok (.iconst 0, 1) := by decide +kernel
theorem d_mo_commonOf_25 : decode prog_13_method_40_code 25 = .ok (.istore 7, 2) := by decide +kernel
theorem d_mo_commonOf_27 : decode prog_13_method_40_code 27 = .ok (.iload 7, 2) := by decide +kernel
theorem d_mo_commonOf_29 : decode prog_13_method_40_code 29 = .ok (.iload_n 3, 1) := by decide +kernel
theorem d_mo_commonOf_30 : decode prog_13_method_40_code 30 = .ok (.if_icmp .ge 93, 3) := by decide +kernel
theorem d_mo_commonOf_33 : decode prog_13_method_40_code 33 = .ok (.iconst 0, 1) := by decide +kernel
theorem d_mo_commonOf_34 : decode prog_13_method_40_code 34 = .ok (.istore 8, 2) := by decide +kernel
theorem d_mo_commonOf_36 : decode prog_13_method_40_code 36 = .ok (.iconst 1, 1) := by decide +kernel
theorem d_mo_commonOf_37 : decode prog_13_method_40_code 37 = .ok (.istore 9, 2) := by decide +kernel
theorem d_mo_commonOf_39 : decode prog_13_method_40_code 39 = .ok (.iload 9, 2) := by decide +kernel
theorem d_mo_commonOf_41 : decode prog_13_method_40_code 41 = .ok (.iload 6, 2) := by decide +kernel
theorem d_mo_commonOf_43 : decode prog_13_method_40_code 43 = .ok (.if_icmp .gt 74, 3) := by decide +kernel
theorem d_mo_commonOf_46 : decode prog_13_method_40_code 46 = .ok (.aload_n 0, 1) := by decide +kernel
theorem d_mo_commonOf_47 : decode prog_13_method_40_code 47 = .ok (.getfield 70, 3) := by decide +kernel
theorem d_mo_commonOf_50 : decode prog_13_method_40_code 50 = .ok (.iload 9, 2) := by decide +kernel
theorem d_mo_commonOf_52 : decode prog_13_method_40_code 52 = .ok (.iaload, 1) := by decide +kernel
theorem d_mo_commonOf_53 : decode prog_13_method_40_code 53 = .ok (.istore 10, 2) := by decide +kernel
theorem d_mo_commonOf_55 : decode prog_13_method_40_code 55 = .ok (.aload_n 0, 1) := by decide +kernel
theorem d_mo_commonOf_56 : decode prog_13_method_40_code 56 = .ok (.getfield 70, 3) := by decide +kernel
theorem d_mo_commonOf_59 : decode prog_13_method_40_code 59 = .ok (.iload 9, 2) := by decide +kernel
theorem d_mo_commonOf_61 : decode prog_13_method_40_code 61 = .ok (.aload_n 1, 1) := by decide +kernel
theorem d_mo_commonOf_62 : decode prog_13_method_40_code 62 = .ok (.iload_n 2, 1) := by decide +kernel
theorem d_mo_commonOf_63 : decode prog_13_method_40_code 63 = .ok (.iload 7, 2) := by decide +kernel
theorem d_mo_commonOf_65 : decode prog_13_method_40_code 65 = .ok (.iadd, 1) := by decide +kernel
theorem d_mo_commonOf_66 : decode prog_13_method_40_code 66 = .ok (.iaload, 1) := by decide +kernel
theorem d_mo_commonOf_67 : decode prog_13_method_40_code 67 = .ok (.aload 4, 2) := by decide +kernel
theorem d_mo_commonOf_69 : decode prog_13_method_40_code 69 = .ok (.iload 5, 2) := by decide +kernel
theorem d_mo_commonOf_71 : decode prog_13_method_40_code 71 = .ok (.iload 9, 2) := by decide +kernel
theorem d_mo_commonOf_73 : decode prog_13_method_40_code 73 = .ok (.iadd, 1) := by decide +kernel
theorem d_mo_commonOf_74 : decode prog_13_method_40_code 74 = .ok (.iconst 1, 1) := by decide +kernel
theorem d_mo_commonOf_75 : decode prog_13_method_40_code 75 = .ok (.isub, 1) := by decide +kernel
theorem d_mo_commonOf_76 : decode prog_13_method_40_code 76 = .ok (.iaload, 1) := by decide +kernel
theorem d_mo_commonOf_77 : decode prog_13_method_40_code 77 = .ok (.if_icmp .ne 10, 3) := by decide +kernel
theorem d_mo_commonOf_80 : decode prog_13_method_40_code 80 = .ok (.iload 8, 2) := by decide +kernel
theorem d_mo_commonOf_82 : decode prog_13_method_40_code 82 = .ok (.iconst 1, 1) := by decide +kernel
theorem d_mo_commonOf_83 : decode prog_13_method_40_code 83 = .ok (.iadd, 1) := by decide +kernel
theorem d_mo_commonOf_84 : decode prog_13_method_40_code 84 = .ok (.goto 22, 3) := by decide +kernel
theorem d_mo_commonOf_87 : decode prog_13_method_40_code 87 = .ok (.aload_n 0, 1) := by decide +kernel
theorem d_mo_commonOf_88 : decode prog_13_method_40_code 88 = .ok (.getfield 70, 3) := by decide +kernel
theorem d_mo_commonOf_91 : decode prog_13_method_40_code 91 = .ok (.iload 9, 2) := by decide +kernel
theorem d_mo_commonOf_93 : decode prog_13_method_40_code 93 = .ok (.iaload, 1) := by decide +kernel
theorem d_mo_commonOf_94 : decode prog_13_method_40_code 94 = .ok (.aload_n 0, 1) := by decide +kernel
theorem d_mo_commonOf_95 : decode prog_13_method_40_code 95 = .ok (.getfield 70, 3) := by decide +kernel
theorem d_mo_commonOf_98 : decode prog_13_method_40_code 98 = .ok (.iload 9, 2) := by decide +kernel
theorem d_mo_commonOf_100 : decode prog_13_method_40_code 100 = .ok (.iconst 1, 1) := by decide +kernel
theorem d_mo_commonOf_101 : decode prog_13_method_40_code 101 = .ok (.isub, 1) := by decide +kernel
theorem d_mo_commonOf_102 : decode prog_13_method_40_code 102 = .ok (.iaload, 1) := by decide +kernel
theorem d_mo_commonOf_103 : decode prog_13_method_40_code 103 = .ok (.invokestatic 168, 3) := by decide +kernel
theorem d_mo_commonOf_106 : decode prog_13_method_40_code 106 = .ok (.iastore, 1) := by decide +kernel
theorem d_mo_commonOf_107 : decode prog_13_method_40_code 107 = .ok (.iload 10, 2) := by decide +kernel
theorem d_mo_commonOf_109 : decode prog_13_method_40_code 109 = .ok (.istore 8, 2) := by decide +kernel
theorem d_mo_commonOf_111 : decode prog_13_method_40_code 111 = .ok (.iinc 9 1, 3) := by decide +kernel
theorem d_mo_commonOf_114 : decode prog_13_method_40_code 114 = .ok (.goto (-75), 3) := by decide +kernel
theorem d_mo_commonOf_117 : decode prog_13_method_40_code 117 = .ok (.iinc 7 1, 3) := by decide +kernel
theorem d_mo_commonOf_120 : decode prog_13_method_40_code 120 = .ok (.goto (-93), 3) := by decide +kernel
theorem d_mo_commonOf_123 : decode prog_13_method_40_code 123 = .ok (.aload_n 0, 1) := by decide +kernel
theorem d_mo_commonOf_124 : decode prog_13_method_40_code 124 = .ok (.getfield 70, 3) := by decide +kernel
theorem d_mo_commonOf_127 : decode prog_13_method_40_code 127 = .ok (.iload 6, 2) := by decide +kernel
theorem d_mo_commonOf_129 : decode prog_13_method_40_code 129 = .ok (.iaload, 1) := by decide +kernel
theorem d_mo_commonOf_130 : decode prog_13_method_40_code 130 = .ok (.ireturn, 1) := by decide +kernel
theorem d_mo_startsAll_0 : decode prog_13_method_41_code 0 = .ok (.iconst 0, 1) := by decide +kernel
theorem d_mo_startsAll_1 : decode prog_13_method_41_code 1 = .ok (.istore_n 1, 1) := by decide +kernel
theorem d_mo_startsAll_2 : decode prog_13_method_41_code 2 = .ok (.iload_n 1, 1) := by decide +kernel
theorem d_mo_startsAll_3 : decode prog_13_method_41_code 3 = .ok (.aload_n 0, 1) := by decide +kernel
theorem d_mo_startsAll_4 : decode prog_13_method_41_code 4 = .ok (.getfield 112, 3) := by decide +kernel
theorem d_mo_startsAll_7 : decode prog_13_method_41_code 7 = .ok (.if_icmp .ge 22, 3) := by decide +kernel
theorem d_mo_startsAll_10 : decode prog_13_method_41_code 10 = .ok (.aload_n 0, 1) := by decide +kernel
theorem d_mo_startsAll_11 : decode prog_13_method_41_code 11 = .ok (.iload_n 1, 1) := by decide +kernel
theorem d_mo_startsAll_12 : decode prog_13_method_41_code 12 = .ok (.iload_n 1, 1) := by decide +kernel
theorem d_mo_startsAll_13 : decode prog_13_method_41_code 13 = .ok (.invokevirtual 171, 3) := by decide +kernel
theorem d_mo_startsAll_16 : decode prog_13_method_41_code 16 = .ok (.aload_n 0, 1) := by decide +kernel
theorem d_mo_startsAll_17 : decode prog_13_method_41_code 17 = .ok (.getfield 52, 3) := by decide +kernel
theorem d_mo_startsAll_20 : decode prog_13_method_41_code 20 = .ok (.iload_n 1, 1) := by decide +kernel
theorem d_mo_startsAll_21 : decode prog_13_method_41_code 21 = .ok (.iconst (-1), 1) := by decide +kernel
theorem d_mo_startsAll_22 : decode prog_13_method_41_code 22 = .ok (.iastore, 1) := by decide +kernel
theorem d_mo_startsAll_23 : decode prog_13_method_41_code 23 = .ok (.iinc 1 1, 3) := by decide +kernel
theorem d_mo_startsAll_26 : decode prog_13_method_41_code 26 = .ok (.goto (-24), 3) := by decide +kernel
theorem d_mo_startsAll_29 : decode prog_13_method_41_code 29 = .ok (.iconst 0, 1) := by decide +kernel
theorem d_mo_startsAll_30 : decode prog_13_method_41_code 30 = .ok (.istore_n 1, 1) := by decide +kernel
theorem d_mo_startsAll_31 : decode prog_13_method_41_code 31 = .ok (.iload_n 1, 1) := by decide +kernel
theorem d_mo_startsAll_32 : decode prog_13_method_41_code 32 = .ok (.bipush 12, 2) := by decide +kernel
theorem d_mo_startsAll_34 : decode prog_13_method_41_code 34 = .ok (.if_icmp .ge 30, 3) := by decide +kernel
theorem d_mo_startsAll_37 : decode prog_13_method_41_code 37 = .ok (.aload_n 0, 1) := by decide +kernel
theorem d_mo_startsAll_38 : decode prog_13_method_41_code 38 = .ok (.getfield 58, 3) := by decide +kernel
theorem d_mo_startsAll_41 : decode prog_13_method_41_code 41 = .ok (.iload_n 1, 1) := by decide +kernel
theorem d_mo_startsAll_42 : decode prog_13_method_41_code 42 = .ok (.iconst 0, 1) := by decide +kernel
theorem d_mo_startsAll_43 : decode prog_13_method_41_code 43 = .ok (.iastore, 1) := by decide +kernel
theorem d_mo_startsAll_44 : decode prog_13_method_41_code 44 = .ok (.aload_n 0, 1) := by decide +kernel
theorem d_mo_startsAll_45 : decode prog_13_method_41_code 45 = .ok (.getfield 61, 3) := by decide +kernel
theorem d_mo_startsAll_48 : decode prog_13_method_41_code 48 = .ok (.iload_n 1, 1) := by decide +kernel
theorem d_mo_startsAll_49 : decode prog_13_method_41_code 49 = .ok (.iconst 0, 1) := by decide +kernel
theorem d_mo_startsAll_50 : decode prog_13_method_41_code 50 = .ok (.iastore, 1) := by decide +kernel
theorem d_mo_startsAll_51 : decode prog_13_method_41_code 51 = .ok (.aload_n 0, 1) := by decide +kernel
theorem d_mo_startsAll_52 : decode prog_13_method_41_code 52 = .ok (.getfield 64, 3) := by decide +kernel
theorem d_mo_startsAll_55 : decode prog_13_method_41_code 55 = .ok (.iload_n 1, 1) := by decide +kernel
theorem d_mo_startsAll_56 : decode prog_13_method_41_code 56 = .ok (.iconst 0, 1) := by decide +kernel
theorem d_mo_startsAll_57 : decode prog_13_method_41_code 57 = .ok (.iastore, 1) := by decide +kernel
theorem d_mo_startsAll_58 : decode prog_13_method_41_code 58 = .ok (.iinc 1 1, 3) := by decide +kernel
theorem d_mo_startsAll_61 : decode prog_13_method_41_code 61 = .ok (.goto (-30), 3) := by decide +kernel
theorem d_mo_startsAll_64 : decode prog_13_method_41_code 64 = .ok (.return_, 1) := by decide +kernel
theorem d_mo_lends_0 : decode prog_13_method_42_code 0 = .ok (.aload_n 0, 1) := by decide +kernel
theorem d_mo_lends_1 : decode prog_13_method_42_code 1 = .ok (.getfield 37, 3) := by decide +kernel
theorem d_mo_lends_4 : decode prog_13_method_42_code 4 = .ok (.iconst 4, 1) := by decide +kernel
theorem d_mo_lends_5 : decode prog_13_method_42_code 5 = .ok (.iload_n 1, 1) := by decide +kernel
theorem d_mo_lends_6 : decode prog_13_method_42_code 6 = .ok (.imul, 1) := by decide +kernel
theorem d_mo_lends_7 : decode prog_13_method_42_code 7 = .ok (.iconst 1, 1) := by decide +kernel
theorem d_mo_lends_8 : decode prog_13_method_42_code 8 = .ok (.iadd, 1) := by decide +kernel
theorem d_mo_lends_9 : decode prog_13_method_42_code 9 = .ok (.iaload, 1) := by decide +kernel
theorem d_mo_lends_10 : decode prog_13_method_42_code 10 = .ok (.istore_n 2, 1) := by decide +kernel
theorem d_mo_lends_11 : decode prog_13_method_42_code 11 = .ok (.aload_n 0, 1) := by decide +kernel
theorem d_mo_lends_12 : decode prog_13_method_42_code 12 = .ok (.iload_n 2, 1) := by decide +kernel
theorem d_mo_lends_13 : decode prog_13_method_42_code 13 = .ok (.invokevirtual 140, 3) := by decide +kernel
theorem d_mo_lends_16 : decode prog_13_method_42_code 16 = .ok (.ifCond .eq 30, 3) := by decide +kernel
theorem d_mo_lends_19 : decode prog_13_method_42_code 19 = .ok (.aload_n 0, 1) := by decide +kernel
theorem d_mo_lends_20 : decode prog_13_method_42_code 20 = .ok (.aload_n 0, 1) := by decide +kernel
theorem d_mo_lends_21 : decode prog_13_method_42_code 21 = .ok (.getfield 37, 3) := by decide +kernel
theorem d_mo_lends_24 : decode prog_13_method_42_code 24 = .ok (.iconst 4, 1) := by decide +kernel
theorem d_mo_lends_25 : decode prog_13_method_42_code 25 = .ok (.iload_n 1, 1) := by decide +kernel
theorem d_mo_lends_26 : decode prog_13_method_42_code 26 = .ok (.imul, 1) := by decide +kernel
theorem d_mo_lends_27 : decode prog_13_method_42_code 27 = .ok (.iconst 2, 1) := by decide +kernel
theorem d_mo_lends_28 : decode prog_13_method_42_code 28 = .ok (.iadd, 1) := by decide +kernel
theorem d_mo_lends_29 : decode prog_13_method_42_code 29 = .ok (.iaload, 1) := by decide +kernel
theorem d_mo_lends_30 : decode prog_13_method_42_code 30 = .ok (.invokevirtual 147, 3) := by decide +kernel
theorem d_mo_lends_33 : decode prog_13_method_42_code 33 = .ok (.ifCond .eq 13, 3) := by decide +kernel
theorem d_mo_lends_36 : decode prog_13_method_42_code 36 = .ok (.aload_n 0, 1) := by decide +kernel
theorem d_mo_lends_37 : decode prog_13_method_42_code 37 = .ok (.getfield 52, 3) := by decide +kernel
theorem d_mo_lends_40 : decode prog_13_method_42_code 40 = .ok (.iload_n 2, 1) := by decide +kernel
theorem d_mo_lends_41 : decode prog_13_method_42_code 41 = .ok (.iaload, 1) := by decide +kernel
theorem d_mo_lends_42 : decode prog_13_method_42_code 42 = .ok (.iconst (-1), 1) := by decide +kernel
theorem d_mo_lends_43 : decode prog_13_method_42_code 43 = .ok (.if_icmp .eq 4, 3) := by decide +kernel
theorem d_mo_lends_46 : decode prog_13_method_42_code 46 = .ok (.return_, 1) := by decide +kernel
theorem d_mo_lends_47 : decode prog_13_method_42_code 47 = .ok (.aload_n 0, 1) := by decide +kernel
theorem d_mo_lends_48 : decode prog_13_method_42_code 48 = .ok (.getfield 58, 3) := by decide +kernel
theorem d_mo_lends_51 : decode prog_13_method_42_code 51 = .ok (.iload_n 1, 1) := by decide +kernel
theorem d_mo_lends_52 : decode prog_13_method_42_code 52 = .ok (.iconst 1, 1) := by decide +kernel
theorem d_mo_lends_53 : decode prog_13_method_42_code 53 = .ok (.iastore, 1) := by decide +kernel
theorem d_mo_lends_54 : decode prog_13_method_42_code 54 = .ok (.aload_n 0, 1) := by decide +kernel
theorem d_mo_lends_55 : decode prog_13_method_42_code 55 = .ok (.getfield 52, 3) := by decide +kernel
theorem d_mo_lends_58 : decode prog_13_method_42_code 58 = .ok (.iload_n 2, 1) := by decide +kernel
theorem d_mo_lends_59 : decode prog_13_method_42_code 59 = .ok (.aload_n 0, 1) := by decide +kernel
theorem d_mo_lends_60 : decode prog_13_method_42_code 60 = .ok (.getfield 37, 3) := by decide +kernel
theorem d_mo_lends_63 : decode prog_13_method_42_code 63 = .ok (.iconst 4, 1) := by decide +kernel
theorem d_mo_lends_64 : decode prog_13_method_42_code 64 = .ok (.iload_n 1, 1) := by decide +kernel
theorem d_mo_lends_65 : decode prog_13_method_42_code 65 = .ok (.imul, 1) := by decide +kernel
theorem d_mo_lends_66 : decode prog_13_method_42_code 66 = .ok (.iconst 2, 1) := by decide +kernel
theorem d_mo_lends_67 : decode prog_13_method_42_code 67 = .ok (.iadd, 1) := by decide +kernel
theorem d_mo_lends_68 : decode prog_13_method_42_code 68 = .ok (.iaload, 1) := by decide +kernel
theorem d_mo_lends_69 : decode prog_13_method_42_code 69 = .ok (.iastore, 1) := by decide +kernel
theorem d_mo_lends_70 : decode prog_13_method_42_code 70 = .ok (.aload_n 0, 1) := by decide +kernel
theorem d_mo_lends_71 : decode prog_13_method_42_code 71 = .ok (.getfield 55, 3) := by decide +kernel
theorem d_mo_lends_74 : decode prog_13_method_42_code 74 = .ok (.iload_n 2, 1) := by decide +kernel
theorem d_mo_lends_75 : decode prog_13_method_42_code 75 = .ok (.iload_n 1, 1) := by decide +kernel
theorem d_mo_lends_76 : decode prog_13_method_42_code 76 = .ok (.iastore, 1) := by decide +kernel
theorem d_mo_lends_77 : decode prog_13_method_42_code 77 = .ok (.iconst 0, 1) := by decide +kernel
theorem d_mo_lends_78 : decode prog_13_method_42_code 78 = .ok (.istore_n 3, 1) := by decide +kernel
theorem d_mo_lends_79 : decode prog_13_method_42_code 79 = .ok (.iload_n 3, 1) := by decide +kernel
theorem d_mo_lends_80 : decode prog_13_method_42_code 80 = .ok (.aload_n 0, 1) := by decide +kernel
theorem d_mo_lends_81 : decode prog_13_method_42_code 81 = .ok (.getfield 43, 3) := by decide +kernel
theorem d_mo_lends_84 : decode prog_13_method_42_code 84 = .ok (.iload_n 2, 1) := by decide +kernel
theorem d_mo_lends_85 : decode prog_13_method_42_code 85 = .ok (.iaload, 1) := by decide +kernel
theorem d_mo_lends_86 : decode prog_13_method_42_code 86 = .ok (.if_icmp .ge 31, 3) := by decide +kernel
theorem d_mo_lends_89 : decode prog_13_method_42_code 89 = .ok (.aload_n 0, 1) := by decide +kernel
theorem d_mo_lends_90 : decode prog_13_method_42_code 90 = .ok (.getfield 46, 3) := by decide +kernel
theorem d_mo_lends_93 : decode prog_13_method_42_code 93 = .ok (.bipush 40, 2) := by decide +kernel
theorem d_mo_lends_95 : decode prog_13_method_42_code 95 = .ok (.iload_n 2, 1) := by decide +kernel
theorem d_mo_lends_96 : decode prog_13_method_42_code 96 = .ok (.imul, 1) := by decide +kernel
theorem d_mo_lends_97 : decode prog_13_method_42_code 97 = .ok (.iload_n 3, 1) := by decide +kernel
theorem d_mo_lends_98 : decode prog_13_method_42_code 98 = .ok (.iadd, 1) := by decide +kernel
theorem d_mo_lends_99 : decode prog_13_method_42_code 99 = .ok (.aload_n 0, 1) := by decide +kernel
theorem d_mo_lends_100 : decode prog_13_method_42_code 100 = .ok (.getfield 40, 3) := by decide +kernel
theorem d_mo_lends_103 : decode prog_13_method_42_code 103 = .ok (.bipush 40, 2) := by decide +kernel
theorem d_mo_lends_105 : decode prog_13_method_42_code 105 = .ok (.iload_n 2, 1) := by decide +kernel
theorem d_mo_lends_106 : decode prog_13_method_42_code 106 = .ok (.imul, 1) := by decide +kernel
theorem d_mo_lends_107 : decode prog_13_method_42_code 107 = .ok (.iload_n 3, 1) := by decide +kernel
theorem d_mo_lends_108 : decode prog_13_method_42_code 108 = .ok (.iadd, 1) := by decide +kernel
theorem d_mo_lends_109 : decode prog_13_method_42_code 109 = .ok (.iaload, 1) := by decide +kernel
theorem d_mo_lends_110 : decode prog_13_method_42_code 110 = .ok (.iastore, 1) := by decide +kernel
theorem d_mo_lends_111 : decode prog_13_method_42_code 111 = .ok (.iinc 3 1, 3) := by decide +kernel
theorem d_mo_lends_114 : decode prog_13_method_42_code 114 = .ok (.goto (-35), 3) := by decide +kernel
theorem d_mo_lends_117 : decode prog_13_method_42_code 117 = .ok (.aload_n 0, 1) := by decide +kernel
theorem d_mo_lends_118 : decode prog_13_method_42_code 118 = .ok (.getfield 49, 3) := by decide +kernel
theorem d_mo_lends_121 : decode prog_13_method_42_code 121 = .ok (.iload_n 2, 1) := by decide +kernel
theorem d_mo_lends_122 : decode prog_13_method_42_code 122 = .ok (.aload_n 0, 1) := by decide +kernel
theorem d_mo_lends_123 : decode prog_13_method_42_code 123 = .ok (.getfield 43, 3) := by decide +kernel
theorem d_mo_lends_126 : decode prog_13_method_42_code 126 = .ok (.iload_n 2, 1) := by decide +kernel
theorem d_mo_lends_127 : decode prog_13_method_42_code 127 = .ok (.iaload, 1) := by decide +kernel
theorem d_mo_lends_128 : decode prog_13_method_42_code 128 = .ok (.iastore, 1) := by decide +kernel
theorem d_mo_lends_129 : decode prog_13_method_42_code 129 = .ok (.return_, 1) := by decide +kernel
theorem d_mo_returns_0 : decode prog_13_method_43_code 0 = .ok (.aload_n 0, 1) := by decide +kernel
theorem d_mo_returns_1 : decode prog_13_method_43_code 1 = .ok (.getfield 55, 3) := by decide +kernel
theorem d_mo_returns_4 : decode prog_13_method_43_code 4 = .ok (.iload_n 1, 1) := by decide +kernel
theorem d_mo_returns_5 : decode prog_13_method_43_code 5 = .ok (.iaload, 1) := by decide +kernel
theorem d_mo_returns_6 : decode prog_13_method_43_code 6 = .ok (.istore_n 3, 1) := by decide +kernel
theorem d_mo_returns_7 : decode prog_13_method_43_code 7 = .ok (.aload_n 0, 1) := by decide +kernel
theorem d_mo_returns_8 : decode prog_13_method_43_code 8 = .ok (.getfield 52, 3) := by decide +kernel
theorem d_mo_returns_11 : decode prog_13_method_43_code 11 = .ok (.iload_n 1, 1) := by decide +kernel
theorem d_mo_returns_12 : decode prog_13_method_43_code 12 = .ok (.iconst (-1), 1) := by decide +kernel
theorem d_mo_returns_13 : decode prog_13_method_43_code 13 = .ok (.iastore, 1) := by decide +kernel
theorem d_mo_returns_14 : decode prog_13_method_43_code 14 = .ok (.aload_n 0, 1) := by decide +kernel
theorem d_mo_returns_15 : decode prog_13_method_43_code 15 = .ok (.getfield 64, 3) := by decide +kernel
theorem d_mo_returns_18 : decode prog_13_method_43_code 18 = .ok (.iload_n 3, 1) := by decide +kernel
theorem d_mo_returns_19 : decode prog_13_method_43_code 19 = .ok (.aload_n 0, 1) := by decide +kernel
theorem d_mo_returns_20 : decode prog_13_method_43_code 20 = .ok (.getfield 43, 3) := by decide +kernel
theorem d_mo_returns_23 : decode prog_13_method_43_code 23 = .ok (.iload_n 1, 1) := by decide +kernel
theorem d_mo_returns_24 : decode prog_13_method_43_code 24 = .ok (.iaload, 1) := by decide +kernel
theorem d_mo_returns_25 : decode prog_13_method_43_code 25 = .ok (.aload_n 0, 1) := by decide +kernel
theorem d_mo_returns_26 : decode prog_13_method_43_code 26 = .ok (.getfield 49, 3) := by decide +kernel
theorem d_mo_returns_29 : decode prog_13_method_43_code 29 = .ok (.iload_n 1, 1) := by decide +kernel
theorem d_mo_returns_30 : decode prog_13_method_43_code 30 = .ok (.iaload, 1) := by decide +kernel
theorem d_mo_returns_31 : decode prog_13_method_43_code 31 = .ok (.isub, 1) := by decide +kernel
theorem d_mo_returns_32 : decode prog_13_method_43_code 32 = .ok (.iastore, 1) := by decide +kernel
theorem d_mo_returns_33 : decode prog_13_method_43_code 33 = .ok (.aload_n 0, 1) := by decide +kernel
theorem d_mo_returns_34 : decode prog_13_method_43_code 34 = .ok (.aload_n 0, 1) := by decide +kernel
theorem d_mo_returns_35 : decode prog_13_method_43_code 35 = .ok (.getfield 40, 3) := by decide +kernel
theorem d_mo_returns_38 : decode prog_13_method_43_code 38 = .ok (.bipush 40, 2) := by decide +kernel
theorem d_mo_returns_40 : decode prog_13_method_43_code 40 = .ok (.iload_n 1, 1) := by decide +kernel
theorem d_mo_returns_41 : decode prog_13_method_43_code 41 = .ok (.imul, 1) := by decide +kernel
theorem d_mo_returns_42 : decode prog_13_method_43_code 42 = .ok (.aload_n 0, 1) := by decide +kernel
theorem d_mo_returns_43 : decode prog_13_method_43_code 43 = .ok (.getfield 43, 3) := by decide +kernel
theorem d_mo_returns_46 : decode prog_13_method_43_code 46 = .ok (.iload_n 1, 1) := by decide +kernel
theorem d_mo_returns_47 : decode prog_13_method_43_code 47 = .ok (.iaload, 1) := by decide +kernel
theorem d_mo_returns_48 : decode prog_13_method_43_code 48 = .ok (.aload_n 0, 1) := by decide +kernel
theorem d_mo_returns_49 : decode prog_13_method_43_code 49 = .ok (.getfield 46, 3) := by decide +kernel
theorem d_mo_returns_52 : decode prog_13_method_43_code 52 = .ok (.bipush 40, 2) := by decide +kernel
theorem d_mo_returns_54 : decode prog_13_method_43_code 54 = .ok (.iload_n 1, 1) := by decide +kernel
theorem d_mo_returns_55 : decode prog_13_method_43_code 55 = .ok (.imul, 1) := by decide +kernel
theorem d_mo_returns_56 : decode prog_13_method_43_code 56 = .ok (.aload_n 0, 1) := by decide +kernel
theorem d_mo_returns_57 : decode prog_13_method_43_code 57 = .ok (.getfield 49, 3) := by decide +kernel
theorem d_mo_returns_60 : decode prog_13_method_43_code 60 = .ok (.iload_n 1, 1) := by decide +kernel
theorem d_mo_returns_61 : decode prog_13_method_43_code 61 = .ok (.iaload, 1) := by decide +kernel
theorem d_mo_returns_62 : decode prog_13_method_43_code 62 = .ok (.invokevirtual 175, 3) := by decide +kernel
theorem d_mo_returns_65 : decode prog_13_method_43_code 65 = .ok (.istore 4, 2) := by decide +kernel
theorem d_mo_returns_67 : decode prog_13_method_43_code 67 = .ok (.iload 4, 2) := by decide +kernel
theorem d_mo_returns_69 : decode prog_13_method_43_code 69 = .ok (.iload_n 2, 1) := by decide +kernel
theorem d_mo_returns_70 : decode prog_13_method_43_code 70 = .ok (.aload_n 0, 1) := by decide +kernel
theorem d_mo_returns_71 : decode prog_13_method_43_code 71 = .ok (.getfield 49, 3) := by decide +kernel
theorem d_mo_returns_74 : decode prog_13_method_43_code 74 = .ok (.iload_n 1, 1) := by decide +kernel
theorem d_mo_returns_75 : decode prog_13_method_43_code 75 = .ok (.iaload, 1) := by decide +kernel
theorem d_mo_returns_76 : decode prog_13_method_43_code 76 = .ok (.invokestatic 165, 3) := by decide +kernel
theorem d_mo_returns_79 : decode prog_13_method_43_code 79 = .ok (.if_icmp .ge 66, 3) := by decide +kernel
theorem d_mo_returns_82 : decode prog_13_method_43_code 82 = .ok (.aload_n 0, 1) := by decide +kernel
theorem d_mo_returns_83 : decode prog_13_method_43_code 83 = .ok (.getfield 61, 3) := by decide +kernel
theorem d_mo_returns_86 : decode prog_13_method_43_code 86 = .ok (.iload_n 3, 1) := by decide +kernel
theorem d_mo_returns_87 : decode prog_13_method_43_code 87 = .ok (.iconst 1, 1) := by decide +kernel
theorem d_mo_returns_88 : decode prog_13_method_43_code 88 = .ok (.iastore, 1) := by decide +kernel
theorem d_mo_returns_89 : decode prog_13_method_43_code 89 = .ok (.iconst 0, 1) := by decide +kernel
theorem d_mo_returns_90 : decode prog_13_method_43_code 90 = .ok (.istore 5, 2) := by decide +kernel
theorem d_mo_returns_92 : decode prog_13_method_43_code 92 = .ok (.iload 5, 2) := by decide +kernel
theorem d_mo_returns_94 : decode prog_13_method_43_code 94 = .ok (.aload_n 0, 1) := by decide +kernel
theorem d_mo_returns_95 : decode prog_13_method_43_code 95 = .ok (.getfield 49, 3) := by decide +kernel
theorem d_mo_returns_98 : decode prog_13_method_43_code 98 = .ok (.iload_n 1, 1) := by decide +kernel
theorem d_mo_returns_99 : decode prog_13_method_43_code 99 = .ok (.iaload, 1) := by decide +kernel
theorem d_mo_returns_100 : decode prog_13_method_43_code 100 = .ok (.if_icmp .ge 33, 3) := by decide +kernel
theorem d_mo_returns_103 : decode prog_13_method_43_code 103 = .ok (.aload_n 0, 1) := by decide +kernel
theorem d_mo_returns_104 : decode prog_13_method_43_code 104 = .ok (.getfield 40, 3) := by decide +kernel
theorem d_mo_returns_107 : decode prog_13_method_43_code 107 = .ok (.bipush 40, 2) := by decide +kernel
theorem d_mo_returns_109 : decode prog_13_method_43_code 109 = .ok (.iload_n 1, 1) := by decide +kernel
theorem d_mo_returns_110 : decode prog_13_method_43_code 110 = .ok (.imul, 1) := by decide +kernel
theorem d_mo_returns_111 : decode prog_13_method_43_code 111 = .ok (.iload 5, 2) := by decide +kernel
theorem d_mo_returns_113 : decode prog_13_method_43_code 113 = .ok (.iadd, 1) := by decide +kernel
theorem d_mo_returns_114 : decode prog_13_method_43_code 114 = .ok (.aload_n 0, 1) := by decide +kernel
theorem d_mo_returns_115 : decode prog_13_method_43_code 115 = .ok (.getfield 46, 3) := by decide +kernel
theorem d_mo_returns_118 : decode prog_13_method_43_code 118 = .ok (.bipush 40, 2) := by decide +kernel
theorem d_mo_returns_120 : decode prog_13_method_43_code 120 = .ok (.iload_n 1, 1) := by decide +kernel
theorem d_mo_returns_121 : decode prog_13_method_43_code 121 = .ok (.imul, 1) := by decide +kernel
theorem d_mo_returns_122 : decode prog_13_method_43_code 122 = .ok (.iload 5, 2) := by decide +kernel
theorem d_mo_returns_124 : decode prog_13_method_43_code 124 = .ok (.iadd, 1) := by decide +kernel
theorem d_mo_returns_125 : decode prog_13_method_43_code 125 = .ok (.iaload, 1) := by decide +kernel
theorem d_mo_returns_126 : decode prog_13_method_43_code 126 = .ok (.iastore, 1) := by decide +kernel
theorem d_mo_returns_127 : decode prog_13_method_43_code 127 = .ok (.iinc 5 1, 3) := by decide +kernel
theorem d_mo_returns_130 : decode prog_13_method_43_code 130 = .ok (.goto (-38), 3) := by decide +kernel
theorem d_mo_returns_133 : decode prog_13_method_43_code 133 = .ok (.aload_n 0, 1) := by decide +kernel
theorem d_mo_returns_134 : decode prog_13_method_43_code 134 = .ok (.getfield 43, 3) := by decide +kernel
theorem d_mo_returns_137 : decode prog_13_method_43_code 137 = .ok (.iload_n 1, 1) := by decide +kernel
theorem d_mo_returns_138 : decode prog_13_method_43_code 138 = .ok (.aload_n 0, 1) := by decide +kernel
theorem d_mo_returns_139 : decode prog_13_method_43_code 139 = .ok (.getfield 49, 3) := by decide +kernel
theorem d_mo_returns_142 : decode prog_13_method_43_code 142 = .ok (.iload_n 1, 1) := by decide +kernel
theorem d_mo_returns_143 : decode prog_13_method_43_code 143 = .ok (.iaload, 1) := by decide +kernel
theorem d_mo_returns_144 : decode prog_13_method_43_code 144 = .ok (.iastore, 1) := by decide +kernel
theorem d_mo_returns_145 : decode prog_13_method_43_code 145 = .ok (.return_, 1) := by decide +kernel
theorem d_mo_goesOn_0 : decode prog_13_method_44_code 0 = .ok (.iconst 0, 1) := by decide +kernel
theorem d_mo_goesOn_1 : decode prog_13_method_44_code 1 = .ok (.istore_n 3, 1) := by decide +kernel
theorem d_mo_goesOn_2 : decode prog_13_method_44_code 2 = .ok (.iload_n 3, 1) := by decide +kernel
theorem d_mo_goesOn_3 : decode prog_13_method_44_code 3 = .ok (.aload_n 0, 1) := by decide +kernel
theorem d_mo_goesOn_4 : decode prog_13_method_44_code 4 = .ok (.getfield 157, 3) := by decide +kernel
theorem d_mo_goesOn_7 : decode prog_13_method_44_code 7 = .ok (.if_icmp .ge 26, 3) := by decide +kernel
theorem d_mo_goesOn_10 : decode prog_13_method_44_code 10 = .ok (.aload_n 0, 1) := by decide +kernel
theorem d_mo_goesOn_11 : decode prog_13_method_44_code 11 = .ok (.getfield 37, 3) := by decide +kernel
theorem d_mo_goesOn_14 : decode prog_13_method_44_code 14 = .ok (.iconst 4, 1) := by decide +kernel
theorem d_mo_goesOn_15 : decode prog_13_method_44_code 15 = .ok (.iload_n 3, 1) := by decide +kernel
theorem d_mo_goesOn_16 : decode prog_13_method_44_code 16 = .ok (.imul, 1) := by decide +kernel
theorem d_mo_goesOn_17 : decode prog_13_method_44_code 17 = .ok (.iaload, 1) := by decide +kernel
theorem d_mo_goesOn_18 : decode prog_13_method_44_code 18 = .ok (.iload_n 1, 1) := by decide +kernel
theorem d_mo_goesOn_19 : decode prog_13_method_44_code 19 = .ok (.if_icmp .ne 8, 3) := by decide +kernel
theorem d_mo_goesOn_22 : decode prog_13_method_44_code 22 = .ok (.aload_n 0, 1) := by decide +kernel
theorem d_mo_goesOn_23 : decode prog_13_method_44_code 23 = .ok (.iload_n 3, 1) := by decide +kernel
theorem d_mo_goesOn_24 : decode prog_13_method_44_code 24 = .ok (.invokevirtual 179, 3) := by decide +kernel
theorem d_mo_goesOn_27 : decode prog_13_method_44_code 27 = .ok (.iinc 3 1, 3) := by decide +kernel
theorem d_mo_goesOn_30 : decode prog_13_method_44_code 30 = .ok (.goto (-28), 3) := by decide +kernel
theorem d_mo_goesOn_33 : decode prog_13_method_44_code 33 = .ok (.iconst 0, 1) := by decide +kernel
theorem d_mo_goesOn_34 : decode prog_13_method_44_code 34 = .ok (.istore_n 3, 1) := by decide +kernel
theorem d_mo_goesOn_35 : decode prog_13_method_44_code 35 = .ok (.iload_n 3, 1) := by decide +kernel
theorem d_mo_goesOn_36 : decode prog_13_method_44_code 36 = .ok (.aload_n 0, 1) := by decide +kernel
theorem d_mo_goesOn_37 : decode prog_13_method_44_code 37 = .ok (.getfield 112, 3) := by decide +kernel
theorem d_mo_goesOn_40 : decode prog_13_method_44_code 40 = .ok (.if_icmp .ge 30, 3) := by decide +kernel
theorem d_mo_goesOn_43 : decode prog_13_method_44_code 43 = .ok (.aload_n 0, 1) := by decide +kernel
theorem d_mo_goesOn_44 : decode prog_13_method_44_code 44 = .ok (.getfield 52, 3) := by decide +kernel
theorem d_mo_goesOn_47 : decode prog_13_method_44_code 47 = .ok (.iload_n 3, 1) := by decide +kernel
theorem d_mo_goesOn_48 : decode prog_13_method_44_code 48 = .ok (.iaload, 1) := by decide +kernel
theorem d_mo_goesOn_49 : decode prog_13_method_44_code 49 = .ok (.iconst (-1), 1) := by decide +kernel
theorem d_mo_goesOn_50 : decode prog_13_method_44_code 50 = .ok (.if_icmp .eq 14, 3) := by decide +kernel
theorem d_mo_goesOn_53 : decode prog_13_method_44_code 53 = .ok (.aload_n 0, 1) := by decide +kernel
theorem d_mo_goesOn_54 : decode prog_13_method_44_code 54 = .ok (.iload_n 3, 1) := by decide +kernel
theorem d_mo_goesOn_55 : decode prog_13_method_44_code 55 = .ok (.aload_n 0, 1) := by decide +kernel
theorem d_mo_goesOn_56 : decode prog_13_method_44_code 56 = .ok (.getfield 52, 3) := by decide +kernel
theorem d_mo_goesOn_59 : decode prog_13_method_44_code 59 = .ok (.iload_n 3, 1) := by decide +kernel
theorem d_mo_goesOn_60 : decode prog_13_method_44_code 60 = .ok (.iaload, 1) := by decide +kernel
theorem d_mo_goesOn_61 : decode prog_13_method_44_code 61 = .ok (.invokevirtual 183, 3) := by decide +kernel
theorem d_mo_goesOn_64 : decode prog_13_method_44_code 64 = .ok (.iinc 3 1, 3) := by decide +kernel
theorem d_mo_goesOn_67 : decode prog_13_method_44_code 67 = .ok (.goto (-32), 3) := by decide +kernel
theorem d_mo_goesOn_70 : decode prog_13_method_44_code 70 = .ok (.iconst 0, 1) := by decide +kernel
theorem d_mo_goesOn_71 : decode prog_13_method_44_code 71 = .ok (.istore_n 3, 1) := by decide +kernel
theorem d_mo_goesOn_72 : decode prog_13_method_44_code 72 = .ok (.iload_n 3, 1) := by decide +kernel
theorem d_mo_goesOn_73 : decode prog_13_method_44_code 73 = .ok (.aload_n 0, 1) := by decide +kernel
theorem d_mo_goesOn_74 : decode prog_13_method_44_code 74 = .ok (.getfield 112, 3) := by decide +kernel
theorem d_mo_goesOn_77 : decode prog_13_method_44_code 77 = .ok (.if_icmp .ge 60, 3) := by decide +kernel
theorem d_mo_goesOn_80 : decode prog_13_method_44_code 80 = .ok (.aload_n 0, 1) := by decide +kernel
theorem d_mo_goesOn_81 : decode prog_13_method_44_code 81 = .ok (.getfield 55, 3) := by decide +kernel
theorem d_mo_goesOn_84 : decode prog_13_method_44_code 84 = .ok (.iload_n 3, 1) := by decide +kernel
theorem d_mo_goesOn_85 : decode prog_13_method_44_code 85 = .ok (.iaload, 1) := by decide +kernel
theorem d_mo_goesOn_86 : decode prog_13_method_44_code 86 = .ok (.istore 4, 2) := by decide +kernel
theorem d_mo_goesOn_88 : decode prog_13_method_44_code 88 = .ok (.aload_n 0, 1) := by decide +kernel
theorem d_mo_goesOn_89 : decode prog_13_method_44_code 89 = .ok (.getfield 52, 3) := by decide +kernel
theorem d_mo_goesOn_92 : decode prog_13_method_44_code 92 = .ok (.iload_n 3, 1) := by decide +kernel
theorem d_mo_goesOn_93 : decode prog_13_method_44_code 93 = .ok (.iaload, 1) := by decide +kernel
theorem d_mo_goesOn_94 : decode prog_13_method_44_code 94 = .ok (.iconst (-1), 1) := by decide +kernel
theorem d_mo_goesOn_95 : decode prog_13_method_44_code 95 = .ok (.if_icmp .eq 36, 3) := by decide +kernel
theorem d_mo_goesOn_98 : decode prog_13_method_44_code 98 = .ok (.iload_n 1, 1) := by decide +kernel
theorem d_mo_goesOn_99 : decode prog_13_method_44_code 99 = .ok (.aload_n 0, 1) := by decide +kernel
theorem d_mo_goesOn_100 : decode prog_13_method_44_code 100 = .ok (.getfield 37, 3) := by decide +kernel
theorem d_mo_goesOn_103 : decode prog_13_method_44_code 103 = .ok (.iconst 4, 1) := by decide +kernel
theorem d_mo_goesOn_104 : decode prog_13_method_44_code 104 = .ok (.iload 4, 2) := by decide +kernel
theorem d_mo_goesOn_106 : decode prog_13_method_44_code 106 = .ok (.imul, 1) := by decide +kernel
theorem d_mo_goesOn_107 : decode prog_13_method_44_code 107 = .ok (.iaload, 1) := by decide +kernel
theorem d_mo_goesOn_108 : decode prog_13_method_44_code 108 = .ok (.aload_n 0, 1) := by decide +kernel
theorem d_mo_goesOn_109 : decode prog_13_method_44_code 109 = .ok (.getfield 37, 3) := by decide +kernel
theorem d_mo_goesOn_112 : decode prog_13_method_44_code 112 = .ok (.iconst 4, 1) := by decide +kernel
theorem d_mo_goesOn_113 : decode prog_13_method_44_code 113 = .ok (.iload 4, 2) := by decide +kernel
theorem d_mo_goesOn_115 : decode prog_13_method_44_code 115 = .ok (.imul, 1) := by decide +kernel
theorem d_mo_goesOn_116 : decode prog_13_method_44_code 116 = .ok (.iconst 3, 1) := by decide +kernel
theorem d_mo_goesOn_117 : decode prog_13_method_44_code 117 = .ok (.iadd, 1) := by decide +kernel
theorem d_mo_goesOn_118 : decode prog_13_method_44_code 118 = .ok (.iaload, 1) := by decide +kernel
theorem d_mo_goesOn_119 : decode prog_13_method_44_code 119 = .ok (.iadd, 1) := by decide +kernel
theorem d_mo_goesOn_120 : decode prog_13_method_44_code 120 = .ok (.iconst 1, 1) := by decide +kernel
theorem d_mo_goesOn_121 : decode prog_13_method_44_code 121 = .ok (.isub, 1) := by decide +kernel
theorem d_mo_goesOn_122 : decode prog_13_method_44_code 122 = .ok (.if_icmp .ne 9, 3) := by decide +kernel
theorem d_mo_goesOn_125 : decode prog_13_method_44_code 125 = .ok (.aload_n 0, 1) := by decide +kernel
theorem d_mo_goesOn_126 : decode prog_13_method_44_code 126 = .ok (.iload_n 3, 1) := by decide +kernel
theorem d_mo_goesOn_127 : decode prog_13_method_44_code 127 = .ok (.iload_n 2, 1) := by decide +kernel
theorem d_mo_goesOn_128 : decode prog_13_method_44_code 128 = .ok (.invokevirtual 186, 3) := by decide +kernel
theorem d_mo_goesOn_131 : decode prog_13_method_44_code 131 = .ok (.iinc 3 1, 3) := by decide +kernel
theorem d_mo_goesOn_134 : decode prog_13_method_44_code 134 = .ok (.goto (-62), 3) := by decide +kernel
theorem d_mo_goesOn_137 : decode prog_13_method_44_code 137 = .ok (.return_, 1) := by decide +kernel
theorem d_mo_lives_0 : decode prog_13_method_45_code 0 = .ok (.aload_n 0, 1) := by decide +kernel
theorem d_mo_lives_1 : decode prog_13_method_45_code 1 = .ok (.invokevirtual 189, 3) := by decide +kernel
theorem d_mo_lives_4 : decode prog_13_method_45_code 4 = .ok (.iconst 0, 1) := by decide +kernel
theorem d_mo_lives_5 : decode prog_13_method_45_code 5 = .ok (.istore_n 3, 1) := by decide +kernel
theorem d_mo_lives_6 : decode prog_13_method_45_code 6 = .ok (.iload_n 3, 1) := by decide +kernel
theorem d_mo_lives_7 : decode prog_13_method_45_code 7 = .ok (.iload_n 1, 1) := by decide +kernel
theorem d_mo_lives_8 : decode prog_13_method_45_code 8 = .ok (.if_icmp .gt 15, 3) := by decide +kernel
theorem d_mo_lives_11 : decode prog_13_method_45_code 11 = .ok (.aload_n 0, 1) := by decide +kernel
theorem d_mo_lives_12 : decode prog_13_method_45_code 12 = .ok (.iload_n 3, 1) := by decide +kernel
theorem d_mo_lives_13 : decode prog_13_method_45_code 13 = .ok (.iload_n 2, 1) := by decide +kernel
theorem d_mo_lives_14 : decode prog_13_method_45_code 14 = .ok (.invokevirtual 192, 3) := by decide +kernel
theorem d_mo_lives_17 : decode prog_13_method_45_code 17 = .ok (.iinc 3 1, 3) := by decide +kernel
theorem d_mo_lives_20 : decode prog_13_method_45_code 20 = .ok (.goto (-14), 3) := by decide +kernel
theorem d_mo_lives_23 : decode prog_13_method_45_code 23 = .ok (.return_, 1) := by decide +kernel
theorem d_mo_notesOf_0 : decode prog_13_method_46_code 0 = .ok (.aload_n 0, 1) := by decide +kernel
theorem d_mo_notesOf_1 : decode prog_13_method_46_code 1 = .ok (.iload_n 1, 1) := by decide +kernel
theorem d_mo_notesOf_2 : decode prog_13_method_46_code 2 = .ok (.aload_n 0, 1) := by decide +kernel
theorem d_mo_notesOf_3 : decode prog_13_method_46_code 3 = .ok (.getfield 73, 3) := by decide +kernel
theorem d_mo_notesOf_6 : decode prog_13_method_46_code 6 = .ok (.invokevirtual 195, 3) := by decide +kernel
theorem d_mo_notesOf_9 : decode prog_13_method_46_code 9 = .ok (.iload_n 3, 1) := by decide +kernel
theorem d_mo_notesOf_10 : decode prog_13_method_46_code 10 = .ok (.iconst (-1), 1) := by decide +kernel
theorem d_mo_notesOf_11 : decode prog_13_method_46_code 11 = .ok (.if_icmp .ne 12, 3) := by decide +kernel
theorem d_mo_notesOf_14 : decode prog_13_method_46_code 14 = .ok (.aload_n 0, 1) := by decide +kernel
theorem d_mo_notesOf_15 : decode prog_13_method_46_code 15 = .ok (.getfield 43, 3) := by decide +kernel
theorem d_mo_notesOf_18 : decode prog_13_method_46_code 18 = .ok (.iload_n 2, 1) := by decide +kernel
theorem d_mo_notesOf_19 : decode prog_13_method_46_code 19 = .ok (.iaload, 1) := by decide +kernel
theorem d_mo_notesOf_20 : decode prog_13_method_46_code 20 = .ok (.goto 28, 3) := by decide +kernel
theorem d_mo_notesOf_23 : decode prog_13_method_46_code 23 = .ok (.iload_n 3, 1) := by decide +kernel
theorem d_mo_notesOf_24 : decode prog_13_method_46_code 24 = .ok (.aload_n 0, 1) := by decide +kernel
theorem d_mo_notesOf_25 : decode prog_13_method_46_code 25 = .ok (.getfield 43, 3) := by decide +kernel
theorem d_mo_notesOf_28 : decode prog_13_method_46_code 28 = .ok (.iload_n 2, 1) := by decide +kernel
theorem d_mo_notesOf_29 : decode prog_13_method_46_code 29 = .ok (.iaload, 1) := by decide +kernel
theorem d_mo_notesOf_30 : decode prog_13_method_46_code 30 = .ok (.if_icmp .ge 17, 3) := by decide +kernel
theorem d_mo_notesOf_33 : decode prog_13_method_46_code 33 = .ok (.aload_n 0, 1) := by decide +kernel
theorem d_mo_notesOf_34 : decode prog_13_method_46_code 34 = .ok (.getfield 40, 3) := by decide +kernel
theorem d_mo_notesOf_37 : decode prog_13_method_46_code 37 = .ok (.bipush 40, 2) := by decide +kernel
theorem d_mo_notesOf_39 : decode prog_13_method_46_code 39 = .ok (.iload_n 2, 1) := by decide +kernel
theorem d_mo_notesOf_40 : decode prog_13_method_46_code 40 = .ok (.imul, 1) := by decide +kernel
theorem d_mo_notesOf_41 : decode prog_13_method_46_code 41 = .ok (.iload_n 3, 1) := by decide +kernel
theorem d_mo_notesOf_42 : decode prog_13_method_46_code 42 = .ok (.iadd, 1) := by decide +kernel
theorem d_mo_notesOf_43 : decode prog_13_method_46_code 43 = .ok (.iaload, 1) := by decide +kernel
theorem d_mo_notesOf_44 : decode prog_13_method_46_code 44 = .ok (.goto 4, 3) := by decide +kernel
theorem d_mo_notesOf_47 : decode prog_13_method_46_code 47 = .ok (.iconst (-1), 1) := by decide +kernel
theorem d_mo_notesOf_48 : decode prog_13_method_46_code 48 = .ok (.ireturn, 1) := by decide +kernel
theorem d_mo_notes_0 : decode prog_13_method_47_code 0 = .ok (.aload_n 0, 1) := by decide +kernel
theorem d_mo_notes_1 : decode prog_13_method_47_code 1 = .ok (.invokevirtual 137, 3) := by decide +kernel
theorem d_mo_notes_4 : decode prog_13_method_47_code 4 = .ok (.iload_n 1, 1) := by decide +kernel
theorem d_mo_notes_5 : decode prog_13_method_47_code 5 = .ok (.invokestatic 150, 3) := by decide +kernel
theorem d_mo_notes_8 : decode prog_13_method_47_code 8 = .ok (.ifCond .eq 35, 3) := by decide +kernel
theorem d_mo_notes_11 : decode prog_13_method_47_code 11 = .ok (.aload_n 0, 1) := by decide +kernel
theorem d_mo_notes_12 : decode prog_13_method_47_code 12 = .ok (.iload_n 2, 1) := by decide +kernel
theorem d_mo_notes_13 : decode prog_13_method_47_code 13 = .ok (.invokevirtual 140, 3) := by decide +kernel
theorem d_mo_notes_16 : decode prog_13_method_47_code 16 = .ok (.ifCond .eq 27, 3) := by decide +kernel
theorem d_mo_notes_19 : decode prog_13_method_47_code 19 = .ok (.iload_n 3, 1) := by decide +kernel
theorem d_mo_notes_20 : decode prog_13_method_47_code 20 = .ok (.i2l, 1) := by decide +kernel
theorem d_mo_notes_21 : decode prog_13_method_47_code 21 = .ok (.ldc2_w 143, 3) := by decide +kernel
theorem d_mo_notes_24 : decode prog_13_method_47_code 24 = .ok (.ldc2_w 135, 3) := by decide +kernel
theorem d_mo_notes_27 : decode prog_13_method_47_code 27 = .ok (.invokestatic 79, 3) := by decide +kernel
theorem d_mo_notes_30 : decode prog_13_method_47_code 30 = .ok (.ifCond .eq 13, 3) := by decide +kernel
theorem d_mo_notes_33 : decode prog_13_method_47_code 33 = .ok (.aload_n 0, 1) := by decide +kernel
theorem d_mo_notes_34 : decode prog_13_method_47_code 34 = .ok (.iload_n 1, 1) := by decide +kernel
theorem d_mo_notes_35 : decode prog_13_method_47_code 35 = .ok (.iload_n 2, 1) := by decide +kernel
theorem d_mo_notes_36 : decode prog_13_method_47_code 36 = .ok (.iload_n 3, 1) := by decide +kernel
theorem d_mo_notes_37 : decode prog_13_method_47_code 37 = .ok (.invokevirtual 198, 3) := by decide +kernel
theorem d_mo_notes_40 : decode prog_13_method_47_code 40 = .ok (.goto 5, 3) := by decide +kernel
theorem d_mo_notes_43 : decode prog_13_method_47_code 43 = .ok (.bipush (-2), 2) := by decide +kernel
theorem d_mo_notes_45 : decode prog_13_method_47_code 45 = .ok (.ireturn, 1) := by decide +kernel
theorem d_mo_hasOf_0 : decode prog_13_method_48_code 0 = .ok (.aload_n 0, 1) := by decide +kernel
theorem d_mo_hasOf_1 : decode prog_13_method_48_code 1 = .ok (.iload_n 1, 1) := by decide +kernel
theorem d_mo_hasOf_2 : decode prog_13_method_48_code 2 = .ok (.aload_n 0, 1) := by decide +kernel
theorem d_mo_hasOf_3 : decode prog_13_method_48_code 3 = .ok (.getfield 73, 3) := by decide +kernel
theorem d_mo_hasOf_6 : decode prog_13_method_48_code 6 = .ok (.invokevirtual 195, 3) := by decide +kernel
theorem d_mo_hasOf_9 : decode prog_13_method_48_code 9 = .ok (.aload_n 0, 1) := by decide +kernel
theorem d_mo_hasOf_10 : decode prog_13_method_48_code 10 = .ok (.getfield 52, 3) := by decide +kernel
theorem d_mo_hasOf_13 : decode prog_13_method_48_code 13 = .ok (.iload_n 2, 1) := by decide +kernel
theorem d_mo_hasOf_14 : decode prog_13_method_48_code 14 = .ok (.iaload, 1) := by decide +kernel
theorem d_mo_hasOf_15 : decode prog_13_method_48_code 15 = .ok (.ireturn, 1) := by decide +kernel
theorem d_mo_has_0 : decode prog_13_method_49_code 0 = .ok (.aload_n 0, 1) := by decide +kernel
theorem d_mo_has_1 : decode prog_13_method_49_code 1 = .ok (.invokevirtual 137, 3) := by decide +kernel
theorem d_mo_has_4 : decode prog_13_method_49_code 4 = .ok (.iload_n 1, 1) := by decide +kernel
theorem d_mo_has_5 : decode prog_13_method_49_code 5 = .ok (.invokestatic 150, 3) := by decide +kernel
theorem d_mo_has_8 : decode prog_13_method_49_code 8 = .ok (.ifCond .eq 20, 3) := by decide +kernel
theorem d_mo_has_11 : decode prog_13_method_49_code 11 = .ok (.aload_n 0, 1) := by decide +kernel
theorem d_mo_has_12 : decode prog_13_method_49_code 12 = .ok (.iload_n 2, 1) := by decide +kernel
theorem d_mo_has_13 : decode prog_13_method_49_code 13 = .ok (.invokevirtual 140, 3) := by decide +kernel
theorem d_mo_has_16 : decode prog_13_method_49_code 16 = .ok (.ifCond .eq 12, 3) := by decide +kernel
theorem d_mo_has_19 : decode prog_13_method_49_code 19 = .ok (.aload_n 0, 1) := by decide +kernel
theorem d_mo_has_20 : decode prog_13_method_49_code 20 = .ok (.iload_n 1, 1) := by decide +kernel
theorem d_mo_has_21 : decode prog_13_method_49_code 21 = .ok (.iload_n 2, 1) := by decide +kernel
theorem d_mo_has_22 : decode prog_13_method_49_code 22 = .ok (.invokevirtual 201, 3) := by decide +kernel
theorem d_mo_has_25 : decode prog_13_method_49_code 25 = .ok (.goto 5, 3) := by decide +kernel
theorem d_mo_has_28 : decode prog_13_method_49_code 28 = .ok (.bipush (-2), 2) := by decide +kernel
theorem d_mo_has_30 : decode prog_13_method_49_code 30 = .ok (.ireturn, 1) := by decide +kernel
theorem d_mo_cameOf_0 : decode prog_13_method_50_code 0 = .ok (.aload_n 0, 1) := by decide +kernel
theorem d_mo_cameOf_1 : decode prog_13_method_50_code 1 = .ok (.bipush 39, 2) := by decide +kernel
theorem d_mo_cameOf_3 : decode prog_13_method_50_code 3 = .ok (.aload_n 0, 1) := by decide +kernel
theorem d_mo_cameOf_4 : decode prog_13_method_50_code 4 = .ok (.getfield 73, 3) := by decide +kernel
theorem d_mo_cameOf_7 : decode prog_13_method_50_code 7 = .ok (.invokevirtual 195, 3) := by decide +kernel
theorem d_mo_cameOf_10 : decode prog_13_method_50_code 10 = .ok (.iload_n 2, 1) := by decide +kernel
theorem d_mo_cameOf_11 : decode prog_13_method_50_code 11 = .ok (.ifCond .ne 12, 3) := by decide +kernel
theorem d_mo_cameOf_14 : decode prog_13_method_50_code 14 = .ok (.aload_n 0, 1) := by decide +kernel
theorem d_mo_cameOf_15 : decode prog_13_method_50_code 15 = .ok (.getfield 58, 3) := by decide +kernel
theorem d_mo_cameOf_18 : decode prog_13_method_50_code 18 = .ok (.iload_n 1, 1) := by decide +kernel
theorem d_mo_cameOf_19 : decode prog_13_method_50_code 19 = .ok (.iaload, 1) := by decide +kernel
theorem d_mo_cameOf_20 : decode prog_13_method_50_code 20 = .ok (.goto 23, 3) := by decide +kernel
theorem d_mo_cameOf_23 : decode prog_13_method_50_code 23 = .ok (.iload_n 2, 1) := by decide +kernel
theorem d_mo_cameOf_24 : decode prog_13_method_50_code 24 = .ok (.iconst 1, 1) := by decide +kernel
theorem d_mo_cameOf_25 : decode prog_13_method_50_code 25 = .ok (.if_icmp .ne 12, 3) := by decide +kernel
theorem d_mo_cameOf_28 : decode prog_13_method_50_code 28 = .ok (.aload_n 0, 1) := by decide +kernel
theorem d_mo_cameOf_29 : decode prog_13_method_50_code 29 = .ok (.getfield 61, 3) := by decide +kernel
theorem d_mo_cameOf_32 : decode prog_13_method_50_code 32 = .ok (.iload_n 1, 1) := by decide +kernel
theorem d_mo_cameOf_33 : decode prog_13_method_50_code 33 = .ok (.iaload, 1) := by decide +kernel
theorem d_mo_cameOf_34 : decode prog_13_method_50_code 34 = .ok (.goto 9, 3) := by decide +kernel
theorem d_mo_cameOf_37 : decode prog_13_method_50_code 37 = .ok (.aload_n 0, 1) := by decide +kernel
theorem d_mo_cameOf_38 : decode prog_13_method_50_code 38 = .ok (.getfield 64, 3) := by decide +kernel
theorem d_mo_cameOf_41 : decode prog_13_method_50_code 41 = .ok (.iload_n 1, 1) := by decide +kernel
theorem d_mo_cameOf_42 : decode prog_13_method_50_code 42 = .ok (.iaload, 1) := by decide +kernel
theorem d_mo_cameOf_43 : decode prog_13_method_50_code 43 = .ok (.ireturn, 1) := by decide +kernel
theorem d_mo_came_0 : decode prog_13_method_51_code 0 = .ok (.aload_n 0, 1) := by decide +kernel
theorem d_mo_came_1 : decode prog_13_method_51_code 1 = .ok (.invokevirtual 137, 3) := by decide +kernel
theorem d_mo_came_4 : decode prog_13_method_51_code 4 = .ok (.iload_n 1, 1) := by decide +kernel
theorem d_mo_came_5 : decode prog_13_method_51_code 5 = .ok (.i2l, 1) := by decide +kernel
theorem d_mo_came_6 : decode prog_13_method_51_code 6 = .ok (.lconst 0, 1) := by decide +kernel
theorem d_mo_came_7 : decode prog_13_method_51_code 7 = .ok (.aload_n 0, 1) := by decide +kernel
theorem d_mo_came_8 : decode prog_13_method_51_code 8 = .ok (.getfield 157, 3) := by decide +kernel
theorem d_mo_came_11 : decode prog_13_method_51_code 11 = .ok (.iconst 1, 1) := by decide +kernel
theorem d_mo_came_12 : decode prog_13_method_51_code 12 = .ok (.isub, 1) := by decide +kernel
theorem d_mo_came_13 : decode prog_13_method_51_code 13 = .ok (.i2l, 1) := by decide +kernel
theorem d_mo_came_14 : decode prog_13_method_51_code 14 = .ok (.invokestatic 79, 3) := by decide +kernel
theorem d_mo_came_17 : decode prog_13_method_51_code 17 = .ok (.ifCond .eq 24, 3) := by decide +kernel
theorem d_mo_came_20 : decode prog_13_method_51_code 20 = .ok (.iload_n 2, 1) := by decide +kernel
theorem d_mo_came_21 : decode prog_13_method_51_code 21 = .ok (.i2l, 1) := by decide +kernel
theorem d_mo_came_22 : decode prog_13_method_51_code 22 = .ok (.lconst 0, 1) := by decide +kernel
theorem d_mo_came_23 : decode prog_13_method_51_code 23 = .ok (.ldc2_w 92, 3) := by decide +kernel
theorem d_mo_came_26 : decode prog_13_method_51_code 26 = .ok (.invokestatic 79, 3) := by decide +kernel
theorem d_mo_came_29 : decode prog_13_method_51_code 29 = .ok (.ifCond .eq 12, 3) := by decide +kernel
theorem d_mo_came_32 : decode prog_13_method_51_code 32 = .ok (.aload_n 0, 1) := by decide +kernel
theorem d_mo_came_33 : decode prog_13_method_51_code 33 = .ok (.iload_n 1, 1) := by decide +kernel
theorem d_mo_came_34 : decode prog_13_method_51_code 34 = .ok (.iload_n 2, 1) := by decide +kernel
theorem d_mo_came_35 : decode prog_13_method_51_code 35 = .ok (.invokevirtual 204, 3) := by decide +kernel
theorem d_mo_came_38 : decode prog_13_method_51_code 38 = .ok (.goto 6, 3) := by decide +kernel
theorem d_mo_came_41 : decode prog_13_method_51_code 41 = .ok (.sipush (-1002), 3) := by decide +kernel
theorem d_mo_came_44 : decode prog_13_method_51_code 44 = .ok (.ireturn, 1) := by decide +kernel
theorem d_mo_interestBy_0 : decode prog_13_method_52_code 0 = .ok (.aload_n 0, 1) := by decide +kernel
theorem d_mo_interestBy_1 : decode prog_13_method_52_code 1 = .ok (.iload_n 1, 1) := by decide +kernel
theorem d_mo_interestBy_2 : decode prog_13_method_52_code 2 = .ok (.iload_n 2, 1) := by decide +kernel
theorem d_mo_interestBy_3 : decode prog_13_method_52_code 3 = .ok (.invokevirtual 195, 3) := by decide +kernel
theorem d_mo_interestBy_6 : decode prog_13_method_52_code 6 = .ok (.iconst 0, 1) := by decide +kernel
theorem d_mo_interestBy_7 : decode prog_13_method_52_code 7 = .ok (.istore_n 3, 1) := by decide +kernel
theorem d_mo_interestBy_8 : decode prog_13_method_52_code 8 = .ok (.iconst 0, 1) := by decide +kernel
theorem d_mo_interestBy_9 : decode prog_13_method_52_code 9 = .ok (.istore 4, 2) := by decide +kernel
theorem d_mo_interestBy_11 : decode prog_13_method_52_code 11 = .ok (.iload 4, 2) := by decide +kernel
theorem d_mo_interestBy_13 : decode prog_13_method_52_code 13 = .ok (.aload_n 0, 1) := by decide +kernel
theorem d_mo_interestBy_14 : decode prog_13_method_52_code 14 = .ok (.getfield 112, 3) := by decide +kernel
theorem d_mo_interestBy_17 : decode prog_13_method_52_code 17 = .ok (.if_icmp .ge 27, 3) := by decide +kernel
theorem d_mo_interestBy_20 : decode prog_13_method_52_code 20 = .ok (.iload_n 3, 1) := by decide +kernel
theorem d_mo_interestBy_21 : decode prog_13_method_52_code 21 = .ok (.aload_n 0, 1) := by decide +kernel
theorem d_mo_interestBy_22 : decode prog_13_method_52_code 22 = .ok (.getfield 43, 3) := by decide +kernel
theorem d_mo_interestBy_25 : decode prog_13_method_52_code 25 = .ok (.iload 4, 2) := by decide +kernel
theorem d_mo_interestBy_27 : decode prog_13_method_52_code 27 = .ok (.iaload, 1) := by decide +kernel
theorem d_mo_interestBy_28 : decode prog_13_method_52_code 28 = .ok (.aload_n 0, 1) := by decide +kernel
theorem d_mo_interestBy_29 : decode prog_13_method_52_code 29 = .ok (.getfield 31, 3) := by decide +kernel
theorem d_mo_interestBy_32 : decode prog_13_method_52_code 32 = .ok (.iload 4, 2) := by decide +kernel
theorem d_mo_interestBy_34 : decode prog_13_method_52_code 34 = .ok (.iaload, 1) := by decide +kernel
theorem d_mo_interestBy_35 : decode prog_13_method_52_code 35 = .ok (.isub, 1) := by decide +kernel
theorem d_mo_interestBy_36 : decode prog_13_method_52_code 36 = .ok (.iadd, 1) := by decide +kernel
theorem d_mo_interestBy_37 : decode prog_13_method_52_code 37 = .ok (.istore_n 3, 1) := by decide +kernel
theorem d_mo_interestBy_38 : decode prog_13_method_52_code 38 = .ok (.iinc 4 1, 3) := by decide +kernel
theorem d_mo_interestBy_41 : decode prog_13_method_52_code 41 = .ok (.goto (-30), 3) := by decide +kernel
theorem d_mo_interestBy_44 : decode prog_13_method_52_code 44 = .ok (.iload_n 3, 1) := by decide +kernel
theorem d_mo_interestBy_45 : decode prog_13_method_52_code 45 = .ok (.ireturn, 1) := by decide +kernel
theorem d_mo_interest_0 : decode prog_13_method_53_code 0 = .ok (.aload_n 0, 1) := by decide +kernel
theorem d_mo_interest_1 : decode prog_13_method_53_code 1 = .ok (.invokevirtual 137, 3) := by decide +kernel
theorem d_mo_interest_4 : decode prog_13_method_53_code 4 = .ok (.iload_n 1, 1) := by decide +kernel
theorem d_mo_interest_5 : decode prog_13_method_53_code 5 = .ok (.invokestatic 150, 3) := by decide +kernel
theorem d_mo_interest_8 : decode prog_13_method_53_code 8 = .ok (.ifCond .eq 15, 3) := by decide +kernel
theorem d_mo_interest_11 : decode prog_13_method_53_code 11 = .ok (.aload_n 0, 1) := by decide +kernel
theorem d_mo_interest_12 : decode prog_13_method_53_code 12 = .ok (.iload_n 1, 1) := by decide +kernel
theorem d_mo_interest_13 : decode prog_13_method_53_code 13 = .ok (.aload_n 0, 1) := by decide +kernel
theorem d_mo_interest_14 : decode prog_13_method_53_code 14 = .ok (.getfield 73, 3) := by decide +kernel
theorem d_mo_interest_17 : decode prog_13_method_53_code 17 = .ok (.invokevirtual 207, 3) := by decide +kernel
theorem d_mo_interest_20 : decode prog_13_method_53_code 20 = .ok (.goto 6, 3) := by decide +kernel
theorem d_mo_interest_23 : decode prog_13_method_53_code 23 = .ok (.sipush (-1002), 3) := by decide +kernel
theorem d_mo_interest_26 : decode prog_13_method_53_code 26 = .ok (.ireturn, 1) := by decide +kernel
theorem d_mo_homeOf_0 : decode prog_13_method_54_code 0 = .ok (.aload_n 0, 1) := by decide +kernel
theorem d_mo_homeOf_1 : decode prog_13_method_54_code 1 = .ok (.invokevirtual 189, 3) := by decide +kernel
theorem d_mo_homeOf_4 : decode prog_13_method_54_code 4 = .ok (.iconst 0, 1) := by decide +kernel
theorem d_mo_homeOf_5 : decode prog_13_method_54_code 5 = .ok (.istore_n 2, 1) := by decide +kernel
theorem d_mo_homeOf_6 : decode prog_13_method_54_code 6 = .ok (.iload_n 2, 1) := by decide +kernel
theorem d_mo_homeOf_7 : decode prog_13_method_54_code 7 = .ok (.bipush 40, 2) := by decide +kernel
theorem d_mo_homeOf_9 : decode prog_13_method_54_code 9 = .ok (.if_icmp .ge 74, 3) := by decide +kernel
theorem d_mo_homeOf_12 : decode prog_13_method_54_code 12 = .ok (.aload_n 0, 1) := by decide +kernel
theorem d_mo_homeOf_13 : decode prog_13_method_54_code 13 = .ok (.iload_n 2, 1) := by decide +kernel
theorem d_mo_homeOf_14 : decode prog_13_method_54_code 14 = .ok (.aload_n 0, 1) := by decide +kernel
theorem d_mo_homeOf_15 : decode prog_13_method_54_code 15 = .ok (.getfield 73, 3) := by decide +kernel
theorem d_mo_homeOf_18 : decode prog_13_method_54_code 18 = .ok (.invokevirtual 192, 3) := by decide +kernel
theorem d_mo_homeOf_21 : decode prog_13_method_54_code 21 = .ok (.iload_n 2, 1) := by decide +kernel
theorem d_mo_homeOf_22 : decode prog_13_method_54_code 22 = .ok (.iload_n 1, 1) := by decide +kernel
theorem d_mo_homeOf_23 : decode prog_13_method_54_code 23 = .ok (.if_icmp .lt 7, 3) := by decide +kernel
theorem d_mo_homeOf_26 : decode prog_13_method_54_code 26 = .ok (.iconst 1, 1) := by decide +kernel
theorem d_mo_homeOf_27 : decode prog_13_method_54_code 27 = .ok (.goto 4, 3) := by decide +kernel
theorem d_mo_homeOf_30 : decode prog_13_method_54_code 30 = .ok (.iconst 0, 1) := by decide +kernel
theorem d_mo_homeOf_31 : decode prog_13_method_54_code 31 = .ok (.istore_n 3, 1) := by decide +kernel
theorem d_mo_homeOf_32 : decode prog_13_method_54_code 32 = .ok (.iconst 0, 1) := by decide +kernel
theorem d_mo_homeOf_33 : decode prog_13_method_54_code 33 = .ok (.istore 4, 2) := by decide +kernel
theorem d_mo_homeOf_35 : decode prog_13_method_54_code 35 = .ok (.iload 4, 2) := by decide +kernel
theorem d_mo_homeOf_37 : decode prog_13_method_54_code 37 = .ok (.aload_n 0, 1) := by decide +kernel
theorem d_mo_homeOf_38 : decode prog_13_method_54_code 38 = .ok (.getfield 112, 3) := by decide +kernel
theorem d_mo_homeOf_41 : decode prog_13_method_54_code 41 = .ok (.if_icmp .ge 30, 3) := by decide +kernel
theorem d_mo_homeOf_44 : decode prog_13_method_54_code 44 = .ok (.iload_n 3, 1) := by decide +kernel
theorem d_mo_homeOf_45 : decode prog_13_method_54_code 45 = .ok (.ifCond .eq 18, 3) := by decide +kernel
theorem d_mo_homeOf_48 : decode prog_13_method_54_code 48 = .ok (.aload_n 0, 1) := by decide +kernel
theorem d_mo_homeOf_49 : decode prog_13_method_54_code 49 = .ok (.getfield 52, 3) := by decide +kernel
theorem d_mo_homeOf_52 : decode prog_13_method_54_code 52 = .ok (.iload 4, 2) := by decide +kernel
theorem d_mo_homeOf_54 : decode prog_13_method_54_code 54 = .ok (.iaload, 1) := by decide +kernel
theorem d_mo_homeOf_55 : decode prog_13_method_54_code 55 = .ok (.iconst (-1), 1) := by decide +kernel
theorem d_mo_homeOf_56 : decode prog_13_method_54_code 56 = .ok (.if_icmp .ne 7, 3) := by decide +kernel
theorem d_mo_homeOf_59 : decode prog_13_method_54_code 59 = .ok (.iconst 1, 1) := by decide +kernel
theorem d_mo_homeOf_60 : decode prog_13_method_54_code 60 = .ok (.goto 4, 3) := by decide +kernel
theorem d_mo_homeOf_63 : decode prog_13_method_54_code 63 = .ok (.iconst 0, 1) := by decide +kernel
theorem d_mo_homeOf_64 : decode prog_13_method_54_code 64 = .ok (.istore_n 3, 1) := by decide +kernel
theorem d_mo_homeOf_65 : decode prog_13_method_54_code 65 = .ok (.iinc 4 1, 3) := by decide +kernel
theorem d_mo_homeOf_68 : decode prog_13_method_54_code 68 = .ok (.goto (-33), 3) := by decide +kernel
theorem d_mo_homeOf_71 : decode prog_13_method_54_code 71 = .ok (.iload_n 3, 1) := by decide +kernel
theorem d_mo_homeOf_72 : decode prog_13_method_54_code 72 = .ok (.ifCond .eq 5, 3) := by decide +kernel
theorem d_mo_homeOf_75 : decode prog_13_method_54_code 75 = .ok (.iload_n 2, 1) := by decide +kernel
theorem d_mo_homeOf_76 : decode prog_13_method_54_code 76 = .ok (.ireturn, 1) := by decide +kernel
theorem d_mo_homeOf_77 : decode prog_13_method_54_code 77 = .ok (.iinc 2 1, 3) := by decide +kernel
theorem d_mo_homeOf_80 : decode prog_13_method_54_code 80 = .ok (.goto (-74), 3) := by decide +kernel
theorem d_mo_homeOf_83 : decode prog_13_method_54_code 83 = .ok (.iconst (-1), 1) := by decide +kernel
theorem d_mo_homeOf_84 : decode prog_13_method_54_code 84 = .ok (.ireturn, 1) := by decide +kernel
theorem d_mo_home_0 : decode prog_13_method_55_code 0 = .ok (.aload_n 0, 1) := by decide +kernel
theorem d_mo_home_1 : decode prog_13_method_55_code 1 = .ok (.invokevirtual 137, 3) := by decide +kernel
theorem d_mo_home_4 : decode prog_13_method_55_code 4 = .ok (.iload_n 1, 1) := by decide +kernel
theorem d_mo_home_5 : decode prog_13_method_55_code 5 = .ok (.invokestatic 150, 3) := by decide +kernel
theorem d_mo_home_8 : decode prog_13_method_55_code 8 = .ok (.ifCond .eq 11, 3) := by decide +kernel
theorem d_mo_home_11 : decode prog_13_method_55_code 11 = .ok (.aload_n 0, 1) := by decide +kernel
theorem d_mo_home_12 : decode prog_13_method_55_code 12 = .ok (.iload_n 1, 1) := by decide +kernel
theorem d_mo_home_13 : decode prog_13_method_55_code 13 = .ok (.invokevirtual 210, 3) := by decide +kernel
theorem d_mo_home_16 : decode prog_13_method_55_code 16 = .ok (.goto 5, 3) := by decide +kernel
theorem d_mo_home_19 : decode prog_13_method_55_code 19 = .ok (.bipush (-2), 2) := by decide +kernel
theorem d_mo_home_21 : decode prog_13_method_55_code 21 = .ok (.ireturn, 1) := by decide +kernel
theorem d_mo_codes_0 : decode prog_13_method_56_code 0 = .ok (.iconst 1, 1) := by decide +kernel
theorem d_mo_codes_1 : decode prog_13_method_56_code 1 = .ok (.istore_n 2, 1) := by decide +kernel
theorem d_mo_codes_2 : decode prog_13_method_56_code 2 = .ok (.iconst 0, 1) := by decide +kernel
theorem d_mo_codes_3 : decode prog_13_method_56_code 3 = .ok (.istore_n 3, 1) := by decide +kernel
theorem d_mo_codes_4 : decode prog_13_method_56_code 4 = .ok (.iload_n 3, 1) := by decide +kernel
theorem d_mo_codes_5 : decode prog_13_method_56_code 5 = .ok (.iload_n 1, 1) := by decide +kernel
theorem d_mo_codes_6 : decode prog_13_method_56_code 6 = .ok (.if_icmp .ge 16, 3) := by decide +kernel
theorem d_mo_codes_9 : decode prog_13_method_56_code 9 = .ok (.iload_n 2, 1) := by decide +kernel
theorem d_mo_codes_10 : decode prog_13_method_56_code 10 = .ok (.aload_n 0, 1) := by decide +kernel
theorem d_mo_codes_11 : decode prog_13_method_56_code 11 = .ok (.getfield 122, 3) := by decide +kernel
theorem d_mo_codes_14 : decode prog_13_method_56_code 14 = .ok (.imul, 1) := by decide +kernel
theorem d_mo_codes_15 : decode prog_13_method_56_code 15 = .ok (.istore_n 2, 1) := by decide +kernel
theorem d_mo_codes_16 : decode prog_13_method_56_code 16 = .ok (.iinc 3 1, 3) := by decide +kernel
theorem d_mo_codes_19 : decode prog_13_method_56_code 19 = .ok (.goto (-15), 3) := by decide +kernel
theorem d_mo_codes_22 : decode prog_13_method_56_code 22 = .ok (.iload_n 2, 1) := by decide +kernel
theorem d_mo_codes_23 : decode prog_13_method_56_code 23 = .ok (.ireturn, 1) := by decide +kernel
theorem d_mo_figureOf_0 : decode prog_13_method_57_code 0 = .ok (.iload_n 1, 1) := by decide +kernel
theorem d_mo_figureOf_1 : decode prog_13_method_57_code 1 = .ok (.istore 4, 2) := by decide +kernel
theorem d_mo_figureOf_3 : decode prog_13_method_57_code 3 = .ok (.iload_n 2, 1) := by decide +kernel
theorem d_mo_figureOf_4 : decode prog_13_method_57_code 4 = .ok (.iconst 1, 1) := by decide +kernel
theorem d_mo_figureOf_5 : decode prog_13_method_57_code 5 = .ok (.isub, 1) := by decide +kernel
theorem d_mo_figureOf_6 : decode prog_13_method_57_code 6 = .ok (.istore 5, 2) := by decide +kernel
theorem d_mo_figureOf_8 : decode prog_13_method_57_code 8 = .ok (.iload 5, 2) := by decide +kernel
theorem d_mo_figureOf_10 : decode prog_13_method_57_code 10 = .ok (.iload_n 3, 1) := by decide +kernel
theorem d_mo_figureOf_11 : decode prog_13_method_57_code 11 = .ok (.if_icmp .le 18, 3) := by decide +kernel
theorem d_mo_figureOf_14 : decode prog_13_method_57_code 14 = .ok (.iload 4, 2) := by decide +kernel
theorem d_mo_figureOf_16 : decode prog_13_method_57_code 16 = .ok (.aload_n 0, 1) := by decide +kernel
theorem d_mo_figureOf_17 : decode prog_13_method_57_code 17 = .ok (.getfield 122, 3) := by decide +kernel
theorem d_mo_figureOf_20 : decode prog_13_method_57_code 20 = .ok (.idiv, 1) := by decide +kernel
theorem d_mo_figureOf_21 : decode prog_13_method_57_code 21 = .ok (.istore 4, 2) := by decide +kernel
theorem d_mo_figureOf_23 : decode prog_13_method_57_code 23 = .ok (.iinc 5 (-1), 3) := by decide +kernel
theorem d_mo_figureOf_26 : decode prog_13_method_57_code 26 = .ok (.goto (-18), 3) := by decide +kernel
theorem d_mo_figureOf_29 : decode prog_13_method_57_code 29 = .ok (.iload 4, 2) := by decide +kernel
theorem d_mo_figureOf_31 : decode prog_13_method_57_code 31 = .ok (.aload_n 0, 1) := by decide +kernel
theorem d_mo_figureOf_32 : decode prog_13_method_57_code 32 = .ok (.getfield 122, 3) := by decide +kernel
theorem d_mo_figureOf_35 : decode prog_13_method_57_code 35 = .ok (.irem, 1) := by decide +kernel
theorem d_mo_figureOf_36 : decode prog_13_method_57_code 36 = .ok (.ireturn, 1) := by decide +kernel
theorem d_mo_turns_0 : decode prog_13_method_58_code 0 = .ok (.aload_n 0, 1) := by decide +kernel
theorem d_mo_turns_1 : decode prog_13_method_58_code 1 = .ok (.iload_n 1, 1) := by decide +kernel
theorem d_mo_turns_2 : decode prog_13_method_58_code 2 = .ok (.bipush 6, 2) := by decide +kernel
theorem d_mo_turns_4 : decode prog_13_method_58_code 4 = .ok (.invokevirtual 171, 3) := by decide +kernel
theorem d_mo_turns_7 : decode prog_13_method_58_code 7 = .ok (.iconst 0, 1) := by decide +kernel
theorem d_mo_turns_8 : decode prog_13_method_58_code 8 = .ok (.istore 4, 2) := by decide +kernel
theorem d_mo_turns_10 : decode prog_13_method_58_code 10 = .ok (.iload 4, 2) := by decide +kernel
theorem d_mo_turns_12 : decode prog_13_method_58_code 12 = .ok (.iload_n 3, 1) := by decide +kernel
theorem d_mo_turns_13 : decode prog_13_method_58_code 13 = .ok (.if_icmp .ge 23, 3) := by decide +kernel
theorem d_mo_turns_16 : decode prog_13_method_58_code 16 = .ok (.aload_n 0, 1) := by decide +kernel
theorem d_mo_turns_17 : decode prog_13_method_58_code 17 = .ok (.bipush 6, 2) := by decide +kernel
theorem d_mo_turns_19 : decode prog_13_method_58_code 19 = .ok (.aload_n 0, 1) := by decide +kernel
theorem d_mo_turns_20 : decode prog_13_method_58_code 20 = .ok (.iload_n 2, 1) := by decide +kernel
theorem d_mo_turns_21 : decode prog_13_method_58_code 21 = .ok (.iload_n 3, 1) := by decide +kernel
theorem d_mo_turns_22 : decode prog_13_method_58_code 22 = .ok (.iload 4, 2) := by decide +kernel
theorem d_mo_turns_24 : decode prog_13_method_58_code 24 = .ok (.invokevirtual 213, 3) := by decide +kernel
theorem d_mo_turns_27 : decode prog_13_method_58_code 27 = .ok (.invokevirtual 183, 3) := by decide +kernel
theorem d_mo_turns_30 : decode prog_13_method_58_code 30 = .ok (.iinc 4 1, 3) := by decide +kernel
theorem d_mo_turns_33 : decode prog_13_method_58_code 33 = .ok (.goto (-23), 3) := by decide +kernel
theorem d_mo_turns_36 : decode prog_13_method_58_code 36 = .ok (.return_, 1) := by decide +kernel
theorem d_mo_notesNow_0 : decode prog_13_method_59_code 0 = .ok (.iconst 0, 1) := by decide +kernel
theorem d_mo_notesNow_1 : decode prog_13_method_59_code 1 = .ok (.istore_n 1, 1) := by decide +kernel
theorem d_mo_notesNow_2 : decode prog_13_method_59_code 2 = .ok (.iconst 0, 1) := by decide +kernel
theorem d_mo_notesNow_3 : decode prog_13_method_59_code 3 = .ok (.istore_n 2, 1) := by decide +kernel
theorem d_mo_notesNow_4 : decode prog_13_method_59_code 4 = .ok (.iload_n 2, 1) := by decide +kernel
theorem d_mo_notesNow_5 : decode prog_13_method_59_code 5 = .ok (.aload_n 0, 1) := by decide +kernel
theorem d_mo_notesNow_6 : decode prog_13_method_59_code 6 = .ok (.getfield 43, 3) := by decide +kernel
theorem d_mo_notesNow_9 : decode prog_13_method_59_code 9 = .ok (.bipush 6, 2) := by decide +kernel
theorem d_mo_notesNow_11 : decode prog_13_method_59_code 11 = .ok (.iaload, 1) := by decide +kernel
theorem d_mo_notesNow_12 : decode prog_13_method_59_code 12 = .ok (.if_icmp .ge 24, 3) := by decide +kernel
theorem d_mo_notesNow_15 : decode prog_13_method_59_code 15 = .ok (.iload_n 1, 1) := by decide +kernel
theorem d_mo_notesNow_16 : decode prog_13_method_59_code 16 = .ok (.iconst 1, 1) := by decide +kernel
theorem d_mo_notesNow_17 : decode prog_13_method_59_code 17 = .ok (.aload_n 0, 1) := by decide +kernel
theorem d_mo_notesNow_18 : decode prog_13_method_59_code 18 = .ok (.getfield 40, 3) := by decide +kernel
theorem d_mo_notesNow_21 : decode prog_13_method_59_code 21 = .ok (.sipush 240, 3) := by decide +kernel
theorem d_mo_notesNow_24 : decode prog_13_method_59_code 24 = .ok (.iload_n 2, 1) := by decide +kernel
theorem d_mo_notesNow_25 : decode prog_13_method_59_code 25 = .ok (.iadd, 1) := by decide +kernel
theorem d_mo_notesNow_26 : decode prog_13_method_59_code 26 = .ok (.iaload, 1) := by decide +kernel
theorem d_mo_notesNow_27 : decode prog_13_method_59_code 27 = .ok (.ishl, 1) := by decide +kernel
theorem d_mo_notesNow_28 : decode prog_13_method_59_code 28 = .ok (.ior, 1) := by decide +kernel
theorem d_mo_notesNow_29 : decode prog_13_method_59_code 29 = .ok (.istore_n 1, 1) := by decide +kernel
theorem d_mo_notesNow_30 : decode prog_13_method_59_code 30 = .ok (.iinc 2 1, 3) := by decide +kernel
theorem d_mo_notesNow_33 : decode prog_13_method_59_code 33 = .ok (.goto (-29), 3) := by decide +kernel
theorem d_mo_notesNow_36 : decode prog_13_method_59_code 36 = .ok (.iload_n 1, 1) := by decide +kernel
theorem d_mo_notesNow_37 : decode prog_13_method_59_code 37 = .ok (.ireturn, 1) := by decide +kernel
theorem d_mo_lendOf_0 : decode prog_13_method_60_code 0 = .ok (.iconst 0, 1) := by decide +kernel
theorem d_mo_lendOf_1 : decode prog_13_method_60_code 1 = .ok (.istore 4, 2) := by decide +kernel
theorem d_mo_lendOf_3 : decode prog_13_method_60_code 3 = .ok (.iload 4, 2) := by decide +kernel
theorem d_mo_lendOf_5 : decode prog_13_method_60_code 5 = .ok (.iconst 4, 1) := by decide +kernel
theorem d_mo_lendOf_6 : decode prog_13_method_60_code 6 = .ok (.if_icmp .ge 79, 3) := by decide +kernel
theorem d_mo_lendOf_9 : decode prog_13_method_60_code 9 = .ok (.iconst 0, 1) := by decide +kernel
theorem d_mo_lendOf_10 : decode prog_13_method_60_code 10 = .ok (.istore 5, 2) := by decide +kernel
theorem d_mo_lendOf_12 : decode prog_13_method_60_code 12 = .ok (.iload 5, 2) := by decide +kernel
theorem d_mo_lendOf_14 : decode prog_13_method_60_code 14 = .ok (.aload_n 0, 1) := by decide +kernel
theorem d_mo_lendOf_15 : decode prog_13_method_60_code 15 = .ok (.iload 4, 2) := by decide +kernel
theorem d_mo_lendOf_17 : decode prog_13_method_60_code 17 = .ok (.invokevirtual 216, 3) := by decide +kernel
theorem d_mo_lendOf_20 : decode prog_13_method_60_code 20 = .ok (.if_icmp .ge 59, 3) := by decide +kernel
theorem d_mo_lendOf_23 : decode prog_13_method_60_code 23 = .ok (.aload_n 0, 1) := by decide +kernel
theorem d_mo_lendOf_24 : decode prog_13_method_60_code 24 = .ok (.iload_n 1, 1) := by decide +kernel
theorem d_mo_lendOf_25 : decode prog_13_method_60_code 25 = .ok (.iload 5, 2) := by decide +kernel
theorem d_mo_lendOf_27 : decode prog_13_method_60_code 27 = .ok (.iload 4, 2) := by decide +kernel
theorem d_mo_lendOf_29 : decode prog_13_method_60_code 29 = .ok (.invokevirtual 219, 3) := by decide +kernel
theorem d_mo_lendOf_32 : decode prog_13_method_60_code 32 = .ok (.iload_n 2, 1) := by decide +kernel
theorem d_mo_lendOf_33 : decode prog_13_method_60_code 33 = .ok (.aload_n 0, 1) := by decide +kernel
theorem d_mo_lendOf_34 : decode prog_13_method_60_code 34 = .ok (.invokevirtual 223, 3) := by decide +kernel
theorem d_mo_lendOf_37 : decode prog_13_method_60_code 37 = .ok (.iconst (-1), 1) := by decide +kernel
theorem d_mo_lendOf_38 : decode prog_13_method_60_code 38 = .ok (.ixor, 1) := by decide +kernel
theorem d_mo_lendOf_39 : decode prog_13_method_60_code 39 = .ok (.iand, 1) := by decide +kernel
theorem d_mo_lendOf_40 : decode prog_13_method_60_code 40 = .ok (.ifCond .ne 33, 3) := by decide +kernel
theorem d_mo_lendOf_43 : decode prog_13_method_60_code 43 = .ok (.iload_n 3, 1) := by decide +kernel
theorem d_mo_lendOf_44 : decode prog_13_method_60_code 44 = .ok (.iconst (-1), 1) := by decide +kernel
theorem d_mo_lendOf_45 : decode prog_13_method_60_code 45 = .ok (.if_icmp .ne 8, 3) := by decide +kernel
theorem d_mo_lendOf_48 : decode prog_13_method_60_code 48 = .ok (.iload 4, 2) := by decide +kernel
theorem d_mo_lendOf_50 : decode prog_13_method_60_code 50 = .ok (.goto 22, 3) := by decide +kernel
theorem d_mo_lendOf_53 : decode prog_13_method_60_code 53 = .ok (.iload_n 3, 1) := by decide +kernel
theorem d_mo_lendOf_54 : decode prog_13_method_60_code 54 = .ok (.iload 4, 2) := by decide +kernel
theorem d_mo_lendOf_56 : decode prog_13_method_60_code 56 = .ok (.if_icmp .ge 15, 3) := by decide +kernel
theorem d_mo_lendOf_59 : decode prog_13_method_60_code 59 = .ok (.aload_n 0, 1) := by decide +kernel
theorem d_mo_lendOf_60 : decode prog_13_method_60_code 60 = .ok (.iload 5, 2) := by decide +kernel
theorem d_mo_lendOf_62 : decode prog_13_method_60_code 62 = .ok (.iload 4, 2) := by decide +kernel
theorem d_mo_lendOf_64 : decode prog_13_method_60_code 64 = .ok (.iload_n 3, 1) := by decide +kernel
theorem d_mo_lendOf_65 : decode prog_13_method_60_code 65 = .ok (.invokevirtual 213, 3) := by decide +kernel
theorem d_mo_lendOf_68 : decode prog_13_method_60_code 68 = .ok (.goto 4, 3) := by decide +kernel
theorem d_mo_lendOf_71 : decode prog_13_method_60_code 71 = .ok (.iconst (-1), 1) := by decide +kernel
theorem d_mo_lendOf_72 : decode prog_13_method_60_code 72 = .ok (.ireturn, 1) := by decide +kernel
theorem d_mo_lendOf_73 : decode prog_13_method_60_code 73 = .ok (.iinc 5 1, 3) := by decide +kernel
theorem d_mo_lendOf_76 : decode prog_13_method_60_code 76 = .ok (.goto (-64), 3) := by decide +kernel
theorem d_mo_lendOf_79 : decode prog_13_method_60_code 79 = .ok (.iinc 4 1, 3) := by decide +kernel
theorem d_mo_lendOf_82 : decode prog_13_method_60_code 82 = .ok (.goto (-79), 3) := by decide +kernel
theorem d_mo_lendOf_85 : decode prog_13_method_60_code 85 = .ok (.iconst (-1), 1) := by decide +kernel
theorem d_mo_lendOf_86 : decode prog_13_method_60_code 86 = .ok (.ireturn, 1) := by decide +kernel
