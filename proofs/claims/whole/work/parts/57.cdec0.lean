/-! decode rows of the constructors -/
theorem d_bk_init_0 : decode prog_2_method_1_code 0 = .ok (.aload_n 0, 1) := by decide +kernel
theorem d_bk_init_1 : decode prog_2_method_1_code 1 = .ok (.invokespecial 3, 3) := by decide +kernel
theorem d_bk_init_4 : decode prog_2_method_1_code 4 = .ok (.aload_n 0, 1) := by decide +kernel
theorem d_bk_init_5 : decode prog_2_method_1_code 5 = .ok (.iconst 2, 1) := by decide +kernel
theorem d_bk_init_6 : decode prog_2_method_1_code 6 = .ok (.anewarray 9, 3) := by decide +kernel
theorem d_bk_init_9 : decode prog_2_method_1_code 9 = .ok (.putfield 11, 3) := by decide +kernel
theorem d_bk_init_12 : decode prog_2_method_1_code 12 = .ok (.aload_n 0, 1) := by decide +kernel
theorem d_bk_init_13 : decode prog_2_method_1_code 13 = .ok (.bipush 6, 2) := by decide +kernel
theorem d_bk_init_15 : decode prog_2_method_1_code 15 = .ok (.anewarray 17, 3) := by decide +kernel
theorem d_bk_init_18 : decode prog_2_method_1_code 18 = .ok (.putfield 19, 3) := by decide +kernel
theorem d_bk_init_21 : decode prog_2_method_1_code 21 = .ok (.aload_n 0, 1) := by decide +kernel
theorem d_bk_init_22 : decode prog_2_method_1_code 22 = .ok (.bipush 6, 2) := by decide +kernel
theorem d_bk_init_24 : decode prog_2_method_1_code 24 = .ok (.anewarray 23, 3) := by decide +kernel
theorem d_bk_init_27 : decode prog_2_method_1_code 27 = .ok (.putfield 25, 3) := by decide +kernel
theorem d_bk_init_30 : decode prog_2_method_1_code 30 = .ok (.aload_n 0, 1) := by decide +kernel
theorem d_bk_init_31 : decode prog_2_method_1_code 31 = .ok (.bipush 12, 2) := by decide +kernel
theorem d_bk_init_33 : decode prog_2_method_1_code 33 = .ok (.anewarray 29, 3) := by decide +kernel
theorem d_bk_init_36 : decode prog_2_method_1_code 36 = .ok (.putfield 31, 3) := by decide +kernel
theorem d_bk_init_39 : decode prog_2_method_1_code 39 = .ok (.aload_n 0, 1) := by decide +kernel
theorem d_bk_init_40 : decode prog_2_method_1_code 40 = .ok (.getfield 11, 3) := by decide +kernel
theorem d_bk_init_43 : decode prog_2_method_1_code 43 = .ok (.iconst 0, 1) := by decide +kernel
theorem d_bk_init_44 : decode prog_2_method_1_code 44 = .ok (.new 9, 3) := by decide +kernel
theorem d_bk_init_47 : decode prog_2_method_1_code 47 = .ok (.dup, 1) := by decide +kernel
theorem d_bk_init_48 : decode prog_2_method_1_code 48 = .ok (.bipush 59, 2) := by decide +kernel
theorem d_bk_init_50 : decode prog_2_method_1_code 50 = .ok (.invokespecial 35, 3) := by decide +kernel
theorem d_bk_init_53 : decode prog_2_method_1_code 53 = .ok (.aastore, 1) := by decide +kernel
theorem d_bk_init_54 : decode prog_2_method_1_code 54 = .ok (.aload_n 0, 1) := by decide +kernel
theorem d_bk_init_55 : decode prog_2_method_1_code 55 = .ok (.getfield 11, 3) := by decide +kernel
theorem d_bk_init_58 : decode prog_2_method_1_code 58 = .ok (.iconst 1, 1) := by decide +kernel
theorem d_bk_init_59 : decode prog_2_method_1_code 59 = .ok (.new 9, 3) := by decide +kernel
theorem d_bk_init_62 : decode prog_2_method_1_code 62 = .ok (.dup, 1) := by decide +kernel
theorem d_bk_init_63 : decode prog_2_method_1_code 63 = .ok (.bipush 23, 2) := by decide +kernel
theorem d_bk_init_65 : decode prog_2_method_1_code 65 = .ok (.invokespecial 35, 3) := by decide +kernel
theorem d_bk_init_68 : decode prog_2_method_1_code 68 = .ok (.aastore, 1) := by decide +kernel
theorem d_bk_init_69 : decode prog_2_method_1_code 69 = .ok (.iconst 0, 1) := by decide +kernel
theorem d_bk_init_70 : decode prog_2_method_1_code 70 = .ok (.istore_n 1, 1) := by decide +kernel
theorem d_bk_init_71 : decode prog_2_method_1_code 71 = .ok (.iload_n 1, 1) := by decide +kernel
theorem d_bk_init_72 : decode prog_2_method_1_code 72 = .ok (.bipush 6, 2) := by decide +kernel
theorem d_bk_init_74 : decode prog_2_method_1_code 74 = .ok (.if_icmp .ge 22, 3) := by decide +kernel
theorem d_bk_init_77 : decode prog_2_method_1_code 77 = .ok (.aload_n 0, 1) := by decide +kernel
theorem d_bk_init_78 : decode prog_2_method_1_code 78 = .ok (.getfield 19, 3) := by decide +kernel
theorem d_bk_init_81 : decode prog_2_method_1_code 81 = .ok (.iload_n 1, 1) := by decide +kernel
theorem d_bk_init_82 : decode prog_2_method_1_code 82 = .ok (.new 17, 3) := by decide +kernel
theorem d_bk_init_85 : decode prog_2_method_1_code 85 = .ok (.dup, 1) := by decide +kernel
theorem d_bk_init_86 : decode prog_2_method_1_code 86 = .ok (.invokespecial 38, 3) := by decide +kernel
theorem d_bk_init_89 : decode prog_2_method_1_code 89 = .ok (.aastore, 1) := by decide +kernel
theorem d_bk_init_90 : decode prog_2_method_1_code 90 = .ok (.iinc 1 1, 3) := by decide +kernel
theorem d_bk_init_93 : decode prog_2_method_1_code 93 = .ok (.goto (-22), 3) := by decide +kernel
theorem d_bk_init_96 : decode prog_2_method_1_code 96 = .ok (.iconst 0, 1) := by decide +kernel
theorem d_bk_init_97 : decode prog_2_method_1_code 97 = .ok (.istore_n 1, 1) := by decide +kernel
theorem d_bk_init_98 : decode prog_2_method_1_code 98 = .ok (.iload_n 1, 1) := by decide +kernel
theorem d_bk_init_99 : decode prog_2_method_1_code 99 = .ok (.bipush 6, 2) := by decide +kernel
theorem d_bk_init_101 : decode prog_2_method_1_code 101 = .ok (.if_icmp .ge 22, 3) := by decide +kernel
theorem d_bk_init_104 : decode prog_2_method_1_code 104 = .ok (.aload_n 0, 1) := by decide +kernel
theorem d_bk_init_105 : decode prog_2_method_1_code 105 = .ok (.getfield 25, 3) := by decide +kernel
theorem d_bk_init_108 : decode prog_2_method_1_code 108 = .ok (.iload_n 1, 1) := by decide +kernel
theorem d_bk_init_109 : decode prog_2_method_1_code 109 = .ok (.new 23, 3) := by decide +kernel
theorem d_bk_init_112 : decode prog_2_method_1_code 112 = .ok (.dup, 1) := by decide +kernel
theorem d_bk_init_113 : decode prog_2_method_1_code 113 = .ok (.invokespecial 39, 3) := by decide +kernel
theorem d_bk_init_116 : decode prog_2_method_1_code 116 = .ok (.aastore, 1) := by decide +kernel
theorem d_bk_init_117 : decode prog_2_method_1_code 117 = .ok (.iinc 1 1, 3) := by decide +kernel
theorem d_bk_init_120 : decode prog_2_method_1_code 120 = .ok (.goto (-22), 3) := by decide +kernel
theorem d_bk_init_123 : decode prog_2_method_1_code 123 = .ok (.iconst 0, 1) := by decide +kernel
theorem d_bk_init_124 : decode prog_2_method_1_code 124 = .ok (.istore_n 1, 1) := by decide +kernel
theorem d_bk_init_125 : decode prog_2_method_1_code 125 = .ok (.iload_n 1, 1) := by decide +kernel
theorem d_bk_init_126 : decode prog_2_method_1_code 126 = .ok (.bipush 12, 2) := by decide +kernel
theorem d_bk_init_128 : decode prog_2_method_1_code 128 = .ok (.if_icmp .ge 22, 3) := by decide +kernel
theorem d_bk_init_131 : decode prog_2_method_1_code 131 = .ok (.aload_n 0, 1) := by decide +kernel
theorem d_bk_init_132 : decode prog_2_method_1_code 132 = .ok (.getfield 31, 3) := by decide +kernel
theorem d_bk_init_135 : decode prog_2_method_1_code 135 = .ok (.iload_n 1, 1) := by decide +kernel
theorem d_bk_init_136 : decode prog_2_method_1_code 136 = .ok (.new 29, 3) := by decide +kernel
theorem d_bk_init_139 : decode prog_2_method_1_code 139 = .ok (.dup, 1) := by decide +kernel
theorem d_bk_init_140 : decode prog_2_method_1_code 140 = .ok (.invokespecial 40, 3) := by decide +kernel
theorem d_bk_init_143 : decode prog_2_method_1_code 143 = .ok (.aastore, 1) := by decide +kernel
theorem d_bk_init_144 : decode prog_2_method_1_code 144 = .ok (.iinc 1 1, 3) := by decide +kernel
theorem d_bk_init_147 : decode prog_2_method_1_code 147 = .ok (.goto (-22), 3) := by decide +kernel
theorem d_bk_init_150 : decode prog_2_method_1_code 150 = .ok (.return_, 1) := by decide +kernel
theorem d_bo_init_0 : decode prog_3_method_1_code 0 = .ok (.aload_n 0, 1) := by decide +kernel
theorem d_bo_init_1 : decode prog_3_method_1_code 1 = .ok (.invokespecial 1, 3) := by decide +kernel
theorem d_bo_init_4 : decode prog_3_method_1_code 4 = .ok (.return_, 1) := by decide +kernel
theorem d_ch_init_0 : decode prog_4_method_1_code 0 = .ok (.aload_n 0, 1) := by decide +kernel
theorem d_ch_init_1 : decode prog_4_method_1_code 1 = .ok (.invokespecial 3, 3) := by decide +kernel
theorem d_ch_init_4 : decode prog_4_method_1_code 4 = .ok (.aload_n 0, 1) := by decide +kernel
theorem d_ch_init_5 : decode prog_4_method_1_code 5 = .ok (.new 9, 3) := by decide +kernel
theorem d_ch_init_8 : decode prog_4_method_1_code 8 = .ok (.dup, 1) := by decide +kernel
theorem d_ch_init_9 : decode prog_4_method_1_code 9 = .ok (.invokespecial 11, 3) := by decide +kernel
theorem d_ch_init_12 : decode prog_4_method_1_code 12 = .ok (.putfield 12, 3) := by decide +kernel
theorem d_ch_init_15 : decode prog_4_method_1_code 15 = .ok (.aload_n 0, 1) := by decide +kernel
theorem d_ch_init_16 : decode prog_4_method_1_code 16 = .ok (.new 9, 3) := by decide +kernel
theorem d_ch_init_19 : decode prog_4_method_1_code 19 = .ok (.dup, 1) := by decide +kernel
theorem d_ch_init_20 : decode prog_4_method_1_code 20 = .ok (.invokespecial 11, 3) := by decide +kernel
theorem d_ch_init_23 : decode prog_4_method_1_code 23 = .ok (.putfield 18, 3) := by decide +kernel
theorem d_ch_init_26 : decode prog_4_method_1_code 26 = .ok (.aload_n 0, 1) := by decide +kernel
theorem d_ch_init_27 : decode prog_4_method_1_code 27 = .ok (.bipush 10, 2) := by decide +kernel
theorem d_ch_init_29 : decode prog_4_method_1_code 29 = .ok (.newarray .long, 2) := by decide +kernel
theorem d_ch_init_31 : decode prog_4_method_1_code 31 = .ok (.putfield 21, 3) := by decide +kernel
theorem d_ch_init_34 : decode prog_4_method_1_code 34 = .ok (.return_, 1) := by decide +kernel
theorem d_li_init_0 : decode prog_5_method_1_code 0 = .ok (.aload_n 0, 1) := by decide +kernel
theorem d_li_init_1 : decode prog_5_method_1_code 1 = .ok (.invokespecial 3, 3) := by decide +kernel
theorem d_li_init_4 : decode prog_5_method_1_code 4 = .ok (.aload_n 0, 1) := by decide +kernel
theorem d_li_init_5 : decode prog_5_method_1_code 5 = .ok (.bipush 7, 2) := by decide +kernel
theorem d_li_init_7 : decode prog_5_method_1_code 7 = .ok (.newarray .long, 2) := by decide +kernel
theorem d_li_init_9 : decode prog_5_method_1_code 9 = .ok (.putfield 9, 3) := by decide +kernel
theorem d_li_init_12 : decode prog_5_method_1_code 12 = .ok (.return_, 1) := by decide +kernel
theorem d_lo_init_0 : decode prog_6_method_1_code 0 = .ok (.aload_n 0, 1) := by decide +kernel
theorem d_lo_init_1 : decode prog_6_method_1_code 1 = .ok (.invokespecial 1, 3) := by decide +kernel
theorem d_lo_init_4 : decode prog_6_method_1_code 4 = .ok (.return_, 1) := by decide +kernel
theorem d_sh_init_0 : decode prog_7_method_1_code 0 = .ok (.aload_n 0, 1) := by decide +kernel
theorem d_sh_init_1 : decode prog_7_method_1_code 1 = .ok (.invokespecial 3, 3) := by decide +kernel
theorem d_sh_init_4 : decode prog_7_method_1_code 4 = .ok (.aload_n 0, 1) := by decide +kernel
theorem d_sh_init_5 : decode prog_7_method_1_code 5 = .ok (.bipush 60, 2) := by decide +kernel
theorem d_sh_init_7 : decode prog_7_method_1_code 7 = .ok (.newarray .int, 2) := by decide +kernel
theorem d_sh_init_9 : decode prog_7_method_1_code 9 = .ok (.putfield 9, 3) := by decide +kernel
theorem d_sh_init_12 : decode prog_7_method_1_code 12 = .ok (.aload_n 0, 1) := by decide +kernel
theorem d_sh_init_13 : decode prog_7_method_1_code 13 = .ok (.iconst (-1), 1) := by decide +kernel
theorem d_sh_init_14 : decode prog_7_method_1_code 14 = .ok (.putfield 15, 3) := by decide +kernel
theorem d_sh_init_17 : decode prog_7_method_1_code 17 = .ok (.return_, 1) := by decide +kernel
theorem d_tx_init_0 : decode prog_8_method_1_code 0 = .ok (.aload_n 0, 1) := by decide +kernel
theorem d_tx_init_1 : decode prog_8_method_1_code 1 = .ok (.invokespecial 3, 3) := by decide +kernel
theorem d_tx_init_4 : decode prog_8_method_1_code 4 = .ok (.aload_n 0, 1) := by decide +kernel
theorem d_tx_init_5 : decode prog_8_method_1_code 5 = .ok (.iconst (-1), 1) := by decide +kernel
theorem d_tx_init_6 : decode prog_8_method_1_code 6 = .ok (.putfield 9, 3) := by decide +kernel
theorem d_tx_init_9 : decode prog_8_method_1_code 9 = .ok (.aload_n 0, 1) := by decide +kernel
theorem d_tx_init_10 : decode prog_8_method_1_code 10 = .ok (.iload_n 1, 1) := by decide +kernel
theorem d_tx_init_11 : decode prog_8_method_1_code 11 = .ok (.newarray .int, 2) := by decide +kernel
theorem d_tx_init_13 : decode prog_8_method_1_code 13 = .ok (.putfield 15, 3) := by decide +kernel
theorem d_tx_init_16 : decode prog_8_method_1_code 16 = .ok (.return_, 1) := by decide +kernel
theorem d_tu_init_0 : decode prog_9_method_1_code 0 = .ok (.aload_n 0, 1) := by decide +kernel
theorem d_tu_init_1 : decode prog_9_method_1_code 1 = .ok (.invokespecial 3, 3) := by decide +kernel
theorem d_tu_init_4 : decode prog_9_method_1_code 4 = .ok (.aload_n 0, 1) := by decide +kernel
theorem d_tu_init_5 : decode prog_9_method_1_code 5 = .ok (.bipush 40, 2) := by decide +kernel
theorem d_tu_init_7 : decode prog_9_method_1_code 7 = .ok (.newarray .int, 2) := by decide +kernel
theorem d_tu_init_9 : decode prog_9_method_1_code 9 = .ok (.putfield 9, 3) := by decide +kernel
theorem d_tu_init_12 : decode prog_9_method_1_code 12 = .ok (.return_, 1) := by decide +kernel
theorem d_tr_init_0 : decode prog_10_method_1_code 0 = .ok (.aload_n 0, 1) := by decide +kernel
theorem d_tr_init_1 : decode prog_10_method_1_code 1 = .ok (.invokespecial 3, 3) := by decide +kernel
theorem d_tr_init_4 : decode prog_10_method_1_code 4 = .ok (.aload_n 0, 1) := by decide +kernel
theorem d_tr_init_5 : decode prog_10_method_1_code 5 = .ok (.iconst 4, 1) := by decide +kernel
theorem d_tr_init_6 : decode prog_10_method_1_code 6 = .ok (.anewarray 9, 3) := by decide +kernel
theorem d_tr_init_9 : decode prog_10_method_1_code 9 = .ok (.putfield 11, 3) := by decide +kernel
theorem d_tr_init_12 : decode prog_10_method_1_code 12 = .ok (.aload_n 0, 1) := by decide +kernel
theorem d_tr_init_13 : decode prog_10_method_1_code 13 = .ok (.iconst 3, 1) := by decide +kernel
theorem d_tr_init_14 : decode prog_10_method_1_code 14 = .ok (.newarray .int, 2) := by decide +kernel
theorem d_tr_init_16 : decode prog_10_method_1_code 16 = .ok (.putfield 17, 3) := by decide +kernel
theorem d_tr_init_19 : decode prog_10_method_1_code 19 = .ok (.iconst 0, 1) := by decide +kernel
theorem d_tr_init_20 : decode prog_10_method_1_code 20 = .ok (.istore_n 1, 1) := by decide +kernel
theorem d_tr_init_21 : decode prog_10_method_1_code 21 = .ok (.iload_n 1, 1) := by decide +kernel
theorem d_tr_init_22 : decode prog_10_method_1_code 22 = .ok (.iconst 3, 1) := by decide +kernel
theorem d_tr_init_23 : decode prog_10_method_1_code 23 = .ok (.if_icmp .gt 22, 3) := by decide +kernel
theorem d_tr_init_26 : decode prog_10_method_1_code 26 = .ok (.aload_n 0, 1) := by decide +kernel
theorem d_tr_init_27 : decode prog_10_method_1_code 27 = .ok (.getfield 11, 3) := by decide +kernel
theorem d_tr_init_30 : decode prog_10_method_1_code 30 = .ok (.iload_n 1, 1) := by decide +kernel
theorem d_tr_init_31 : decode prog_10_method_1_code 31 = .ok (.new 9, 3) := by decide +kernel
theorem d_tr_init_34 : decode prog_10_method_1_code 34 = .ok (.dup, 1) := by decide +kernel
theorem d_tr_init_35 : decode prog_10_method_1_code 35 = .ok (.invokespecial 21, 3) := by decide +kernel
theorem d_tr_init_38 : decode prog_10_method_1_code 38 = .ok (.aastore, 1) := by decide +kernel
theorem d_tr_init_39 : decode prog_10_method_1_code 39 = .ok (.iinc 1 1, 3) := by decide +kernel
theorem d_tr_init_42 : decode prog_10_method_1_code 42 = .ok (.goto (-21), 3) := by decide +kernel
theorem d_tr_init_45 : decode prog_10_method_1_code 45 = .ok (.return_, 1) := by decide +kernel
theorem d_ye_init_0 : decode prog_11_method_1_code 0 = .ok (.aload_n 0, 1) := by decide +kernel
theorem d_ye_init_1 : decode prog_11_method_1_code 1 = .ok (.invokespecial 3, 3) := by decide +kernel
theorem d_ye_init_4 : decode prog_11_method_1_code 4 = .ok (.aload_n 0, 1) := by decide +kernel
theorem d_ye_init_5 : decode prog_11_method_1_code 5 = .ok (.bipush 6, 2) := by decide +kernel
theorem d_ye_init_7 : decode prog_11_method_1_code 7 = .ok (.anewarray 9, 3) := by decide +kernel
theorem d_ye_init_10 : decode prog_11_method_1_code 10 = .ok (.putfield 11, 3) := by decide +kernel
theorem d_ye_init_13 : decode prog_11_method_1_code 13 = .ok (.aload_n 0, 1) := by decide +kernel
theorem d_ye_init_14 : decode prog_11_method_1_code 14 = .ok (.bipush 6, 2) := by decide +kernel
theorem d_ye_init_16 : decode prog_11_method_1_code 16 = .ok (.anewarray 9, 3) := by decide +kernel
theorem d_ye_init_19 : decode prog_11_method_1_code 19 = .ok (.putfield 17, 3) := by decide +kernel
theorem d_ye_init_22 : decode prog_11_method_1_code 22 = .ok (.aload_n 0, 1) := by decide +kernel
theorem d_ye_init_23 : decode prog_11_method_1_code 23 = .ok (.bipush 6, 2) := by decide +kernel
theorem d_ye_init_25 : decode prog_11_method_1_code 25 = .ok (.newarray .int, 2) := by decide +kernel
theorem d_ye_init_27 : decode prog_11_method_1_code 27 = .ok (.putfield 20, 3) := by decide +kernel
theorem d_ye_init_30 : decode prog_11_method_1_code 30 = .ok (.aload_n 0, 1) := by decide +kernel
theorem d_ye_init_31 : decode prog_11_method_1_code 31 = .ok (.new 9, 3) := by decide +kernel
theorem d_ye_init_34 : decode prog_11_method_1_code 34 = .ok (.dup, 1) := by decide +kernel
theorem d_ye_init_35 : decode prog_11_method_1_code 35 = .ok (.invokespecial 24, 3) := by decide +kernel
theorem d_ye_init_38 : decode prog_11_method_1_code 38 = .ok (.putfield 25, 3) := by decide +kernel
theorem d_ye_init_41 : decode prog_11_method_1_code 41 = .ok (.aload_n 0, 1) := by decide +kernel
theorem d_ye_init_42 : decode prog_11_method_1_code 42 = .ok (.sipush 9600, 3) := by decide +kernel
theorem d_ye_init_45 : decode prog_11_method_1_code 45 = .ok (.newarray .int, 2) := by decide +kernel
theorem d_ye_init_47 : decode prog_11_method_1_code 47 = .ok (.putfield 29, 3) := by decide +kernel
theorem d_ye_init_50 : decode prog_11_method_1_code 50 = .ok (.aload_n 0, 1) := by decide +kernel
theorem d_ye_init_51 : decode prog_11_method_1_code 51 = .ok (.sipush 240, 3) := by decide +kernel
theorem d_ye_init_54 : decode prog_11_method_1_code 54 = .ok (.newarray .int, 2) := by decide +kernel
theorem d_ye_init_56 : decode prog_11_method_1_code 56 = .ok (.putfield 32, 3) := by decide +kernel
theorem d_ye_init_59 : decode prog_11_method_1_code 59 = .ok (.aload_n 0, 1) := by decide +kernel
theorem d_ye_init_60 : decode prog_11_method_1_code 60 = .ok (.sipush 240, 3) := by decide +kernel
theorem d_ye_init_63 : decode prog_11_method_1_code 63 = .ok (.newarray .int, 2) := by decide +kernel
theorem d_ye_init_65 : decode prog_11_method_1_code 65 = .ok (.putfield 35, 3) := by decide +kernel
theorem d_ye_init_68 : decode prog_11_method_1_code 68 = .ok (.aload_n 0, 1) := by decide +kernel
theorem d_ye_init_69 : decode prog_11_method_1_code 69 = .ok (.iconst (-1), 1) := by decide +kernel
theorem d_ye_init_70 : decode prog_11_method_1_code 70 = .ok (.putfield 38, 3) := by decide +kernel
theorem d_ye_init_73 : decode prog_11_method_1_code 73 = .ok (.iconst 0, 1) := by decide +kernel
theorem d_ye_init_74 : decode prog_11_method_1_code 74 = .ok (.istore_n 1, 1) := by decide +kernel
theorem d_ye_init_75 : decode prog_11_method_1_code 75 = .ok (.iload_n 1, 1) := by decide +kernel
theorem d_ye_init_76 : decode prog_11_method_1_code 76 = .ok (.bipush 6, 2) := by decide +kernel
theorem d_ye_init_78 : decode prog_11_method_1_code 78 = .ok (.if_icmp .ge 35, 3) := by decide +kernel
theorem d_ye_init_81 : decode prog_11_method_1_code 81 = .ok (.aload_n 0, 1) := by decide +kernel
theorem d_ye_init_82 : decode prog_11_method_1_code 82 = .ok (.getfield 11, 3) := by decide +kernel
theorem d_ye_init_85 : decode prog_11_method_1_code 85 = .ok (.iload_n 1, 1) := by decide +kernel
theorem d_ye_init_86 : decode prog_11_method_1_code 86 = .ok (.new 9, 3) := by decide +kernel
theorem d_ye_init_89 : decode prog_11_method_1_code 89 = .ok (.dup, 1) := by decide +kernel
theorem d_ye_init_90 : decode prog_11_method_1_code 90 = .ok (.invokespecial 24, 3) := by decide +kernel
theorem d_ye_init_93 : decode prog_11_method_1_code 93 = .ok (.aastore, 1) := by decide +kernel
theorem d_ye_init_94 : decode prog_11_method_1_code 94 = .ok (.aload_n 0, 1) := by decide +kernel
theorem d_ye_init_95 : decode prog_11_method_1_code 95 = .ok (.getfield 17, 3) := by decide +kernel
theorem d_ye_init_98 : decode prog_11_method_1_code 98 = .ok (.iload_n 1, 1) := by decide +kernel
theorem d_ye_init_99 : decode prog_11_method_1_code 99 = .ok (.new 9, 3) := by decide +kernel
theorem d_ye_init_102 : decode prog_11_method_1_code 102 = .ok (.dup, 1) := by decide +kernel
theorem d_ye_init_103 : decode prog_11_method_1_code 103 = .ok (.invokespecial 24, 3) := by decide +kernel
theorem d_ye_init_106 : decode prog_11_method_1_code 106 = .ok (.aastore, 1) := by decide +kernel
theorem d_ye_init_107 : decode prog_11_method_1_code 107 = .ok (.iinc 1 1, 3) := by decide +kernel
theorem d_ye_init_110 : decode prog_11_method_1_code 110 = .ok (.goto (-35), 3) := by decide +kernel
theorem d_ye_init_113 : decode prog_11_method_1_code 113 = .ok (.return_, 1) := by decide +kernel
theorem d_tl_init_0 : decode prog_1_method_1_code 0 = .ok (.aload_n 0, 1) := by decide +kernel
theorem d_tl_init_1 : decode prog_1_method_1_code 1 = .ok (.invokespecial 1, 3) := by decide +kernel
theorem d_tl_init_4 : decode prog_1_method_1_code 4 = .ok (.aload_n 0, 1) := by decide +kernel
theorem d_tl_init_5 : decode prog_1_method_1_code 5 = .ok (.new 7, 3) := by decide +kernel
theorem d_tl_init_8 : decode prog_1_method_1_code 8 = .ok (.dup, 1) := by decide +kernel
theorem d_tl_init_9 : decode prog_1_method_1_code 9 = .ok (.invokespecial 9, 3) := by decide +kernel
theorem d_tl_init_12 : decode prog_1_method_1_code 12 = .ok (.putfield 10, 3) := by decide +kernel
theorem d_tl_init_15 : decode prog_1_method_1_code 15 = .ok (.aload_n 0, 1) := by decide +kernel
theorem d_tl_init_16 : decode prog_1_method_1_code 16 = .ok (.new 16, 3) := by decide +kernel
theorem d_tl_init_19 : decode prog_1_method_1_code 19 = .ok (.dup, 1) := by decide +kernel
theorem d_tl_init_20 : decode prog_1_method_1_code 20 = .ok (.invokespecial 18, 3) := by decide +kernel
theorem d_tl_init_23 : decode prog_1_method_1_code 23 = .ok (.putfield 19, 3) := by decide +kernel
theorem d_tl_init_26 : decode prog_1_method_1_code 26 = .ok (.aload_n 0, 1) := by decide +kernel
theorem d_tl_init_27 : decode prog_1_method_1_code 27 = .ok (.new 23, 3) := by decide +kernel
theorem d_tl_init_30 : decode prog_1_method_1_code 30 = .ok (.dup, 1) := by decide +kernel
theorem d_tl_init_31 : decode prog_1_method_1_code 31 = .ok (.invokespecial 25, 3) := by decide +kernel
theorem d_tl_init_34 : decode prog_1_method_1_code 34 = .ok (.putfield 26, 3) := by decide +kernel
theorem d_tl_init_37 : decode prog_1_method_1_code 37 = .ok (.aload_n 0, 1) := by decide +kernel
theorem d_tl_init_38 : decode prog_1_method_1_code 38 = .ok (.new 30, 3) := by decide +kernel
theorem d_tl_init_41 : decode prog_1_method_1_code 41 = .ok (.dup, 1) := by decide +kernel
theorem d_tl_init_42 : decode prog_1_method_1_code 42 = .ok (.invokespecial 32, 3) := by decide +kernel
theorem d_tl_init_45 : decode prog_1_method_1_code 45 = .ok (.putfield 33, 3) := by decide +kernel
theorem d_tl_init_48 : decode prog_1_method_1_code 48 = .ok (.aload_n 0, 1) := by decide +kernel
theorem d_tl_init_49 : decode prog_1_method_1_code 49 = .ok (.new 37, 3) := by decide +kernel
theorem d_tl_init_52 : decode prog_1_method_1_code 52 = .ok (.dup, 1) := by decide +kernel
theorem d_tl_init_53 : decode prog_1_method_1_code 53 = .ok (.invokespecial 39, 3) := by decide +kernel
theorem d_tl_init_56 : decode prog_1_method_1_code 56 = .ok (.putfield 40, 3) := by decide +kernel
theorem d_tl_init_59 : decode prog_1_method_1_code 59 = .ok (.aload_n 0, 1) := by decide +kernel
theorem d_tl_init_60 : decode prog_1_method_1_code 60 = .ok (.iconst 4, 1) := by decide +kernel
theorem d_tl_init_61 : decode prog_1_method_1_code 61 = .ok (.anewarray 44, 3) := by decide +kernel
theorem d_tl_init_64 : decode prog_1_method_1_code 64 = .ok (.putfield 46, 3) := by decide +kernel
theorem d_tl_init_67 : decode prog_1_method_1_code 67 = .ok (.iconst 0, 1) := by decide +kernel
theorem d_tl_init_68 : decode prog_1_method_1_code 68 = .ok (.istore_n 1, 1) := by decide +kernel
theorem d_tl_init_69 : decode prog_1_method_1_code 69 = .ok (.iload_n 1, 1) := by decide +kernel
theorem d_tl_init_70 : decode prog_1_method_1_code 70 = .ok (.iconst 4, 1) := by decide +kernel
theorem d_tl_init_71 : decode prog_1_method_1_code 71 = .ok (.if_icmp .ge 22, 3) := by decide +kernel
theorem d_tl_init_74 : decode prog_1_method_1_code 74 = .ok (.aload_n 0, 1) := by decide +kernel
theorem d_tl_init_75 : decode prog_1_method_1_code 75 = .ok (.getfield 46, 3) := by decide +kernel
theorem d_tl_init_78 : decode prog_1_method_1_code 78 = .ok (.iload_n 1, 1) := by decide +kernel
theorem d_tl_init_79 : decode prog_1_method_1_code 79 = .ok (.new 44, 3) := by decide +kernel
theorem d_tl_init_82 : decode prog_1_method_1_code 82 = .ok (.dup, 1) := by decide +kernel
theorem d_tl_init_83 : decode prog_1_method_1_code 83 = .ok (.invokespecial 50, 3) := by decide +kernel
theorem d_tl_init_86 : decode prog_1_method_1_code 86 = .ok (.aastore, 1) := by decide +kernel
theorem d_tl_init_87 : decode prog_1_method_1_code 87 = .ok (.iinc 1 1, 3) := by decide +kernel
theorem d_tl_init_90 : decode prog_1_method_1_code 90 = .ok (.goto (-21), 3) := by decide +kernel
theorem d_tl_init_93 : decode prog_1_method_1_code 93 = .ok (.aload_n 0, 1) := by decide +kernel
theorem d_tl_init_94 : decode prog_1_method_1_code 94 = .ok (.iconst 2, 1) := by decide +kernel
theorem d_tl_init_95 : decode prog_1_method_1_code 95 = .ok (.putfield 51, 3) := by decide +kernel
theorem d_tl_init_98 : decode prog_1_method_1_code 98 = .ok (.return_, 1) := by decide +kernel
theorem d_mo_init_0 : decode prog_13_method_1_code 0 = .ok (.aload_n 0, 1) := by decide +kernel
theorem d_mo_init_1 : decode prog_13_method_1_code 1 = .ok (.invokespecial 1, 3) := by decide +kernel
theorem d_mo_init_4 : decode prog_13_method_1_code 4 = .ok (.aload_n 0, 1) := by decide +kernel
theorem d_mo_init_5 : decode prog_13_method_1_code 5 = .ok (.iconst 4, 1) := by decide +kernel
theorem d_mo_init_6 : decode prog_13_method_1_code 6 = .ok (.newarray .int, 2) := by decide +kernel
theorem d_mo_init_8 : decode prog_13_method_1_code 8 = .ok (.putfield 7, 3) := by decide +kernel
theorem d_mo_init_11 : decode prog_13_method_1_code 11 = .ok (.aload_n 0, 1) := by decide +kernel
theorem d_mo_init_12 : decode prog_13_method_1_code 12 = .ok (.iconst 4, 1) := by decide +kernel
theorem d_mo_init_13 : decode prog_13_method_1_code 13 = .ok (.newarray .int, 2) := by decide +kernel
theorem d_mo_init_15 : decode prog_13_method_1_code 15 = .ok (.putfield 13, 3) := by decide +kernel
theorem d_mo_init_18 : decode prog_13_method_1_code 18 = .ok (.aload_n 0, 1) := by decide +kernel
theorem d_mo_init_19 : decode prog_13_method_1_code 19 = .ok (.sipush 240, 3) := by decide +kernel
theorem d_mo_init_22 : decode prog_13_method_1_code 22 = .ok (.newarray .int, 2) := by decide +kernel
theorem d_mo_init_24 : decode prog_13_method_1_code 24 = .ok (.putfield 16, 3) := by decide +kernel
theorem d_mo_init_27 : decode prog_13_method_1_code 27 = .ok (.aload_n 0, 1) := by decide +kernel
theorem d_mo_init_28 : decode prog_13_method_1_code 28 = .ok (.bipush 60, 2) := by decide +kernel
theorem d_mo_init_30 : decode prog_13_method_1_code 30 = .ok (.newarray .int, 2) := by decide +kernel
theorem d_mo_init_32 : decode prog_13_method_1_code 32 = .ok (.putfield 19, 3) := by decide +kernel
theorem d_mo_init_35 : decode prog_13_method_1_code 35 = .ok (.aload_n 0, 1) := by decide +kernel
theorem d_mo_init_36 : decode prog_13_method_1_code 36 = .ok (.bipush 120, 2) := by decide +kernel
theorem d_mo_init_38 : decode prog_13_method_1_code 38 = .ok (.newarray .int, 2) := by decide +kernel
theorem d_mo_init_40 : decode prog_13_method_1_code 40 = .ok (.putfield 22, 3) := by decide +kernel
theorem d_mo_init_43 : decode prog_13_method_1_code 43 = .ok (.aload_n 0, 1) := by decide +kernel
theorem d_mo_init_44 : decode prog_13_method_1_code 44 = .ok (.iconst 2, 1) := by decide +kernel
theorem d_mo_init_45 : decode prog_13_method_1_code 45 = .ok (.newarray .int, 2) := by decide +kernel
theorem d_mo_init_47 : decode prog_13_method_1_code 47 = .ok (.putfield 25, 3) := by decide +kernel
theorem d_mo_init_50 : decode prog_13_method_1_code 50 = .ok (.aload_n 0, 1) := by decide +kernel
theorem d_mo_init_51 : decode prog_13_method_1_code 51 = .ok (.sipush 240, 3) := by decide +kernel
theorem d_mo_init_54 : decode prog_13_method_1_code 54 = .ok (.newarray .int, 2) := by decide +kernel
theorem d_mo_init_56 : decode prog_13_method_1_code 56 = .ok (.putfield 28, 3) := by decide +kernel
theorem d_mo_init_59 : decode prog_13_method_1_code 59 = .ok (.aload_n 0, 1) := by decide +kernel
theorem d_mo_init_60 : decode prog_13_method_1_code 60 = .ok (.bipush 6, 2) := by decide +kernel
theorem d_mo_init_62 : decode prog_13_method_1_code 62 = .ok (.newarray .int, 2) := by decide +kernel
theorem d_mo_init_64 : decode prog_13_method_1_code 64 = .ok (.putfield 31, 3) := by decide +kernel
theorem d_mo_init_67 : decode prog_13_method_1_code 67 = .ok (.aload_n 0, 1) := by decide +kernel
theorem d_mo_init_68 : decode prog_13_method_1_code 68 = .ok (.bipush 18, 2) := by decide +kernel
theorem d_mo_init_70 : decode prog_13_method_1_code 70 = .ok (.newarray .int, 2) := by decide +kernel
theorem d_mo_init_72 : decode prog_13_method_1_code 72 = .ok (.putfield 34, 3) := by decide +kernel
theorem d_mo_init_75 : decode prog_13_method_1_code 75 = .ok (.aload_n 0, 1) := by decide +kernel
theorem d_mo_init_76 : decode prog_13_method_1_code 76 = .ok (.bipush 48, 2) := by decide +kernel
theorem d_mo_init_78 : decode prog_13_method_1_code 78 = .ok (.newarray .int, 2) := by decide +kernel
theorem d_mo_init_80 : decode prog_13_method_1_code 80 = .ok (.putfield 37, 3) := by decide +kernel
theorem d_mo_init_83 : decode prog_13_method_1_code 83 = .ok (.aload_n 0, 1) := by decide +kernel
theorem d_mo_init_84 : decode prog_13_method_1_code 84 = .ok (.sipush 280, 3) := by decide +kernel
theorem d_mo_init_87 : decode prog_13_method_1_code 87 = .ok (.newarray .int, 2) := by decide +kernel
theorem d_mo_init_89 : decode prog_13_method_1_code 89 = .ok (.putfield 40, 3) := by decide +kernel
theorem d_mo_init_92 : decode prog_13_method_1_code 92 = .ok (.aload_n 0, 1) := by decide +kernel
theorem d_mo_init_93 : decode prog_13_method_1_code 93 = .ok (.bipush 7, 2) := by decide +kernel
theorem d_mo_init_95 : decode prog_13_method_1_code 95 = .ok (.newarray .int, 2) := by decide +kernel
theorem d_mo_init_97 : decode prog_13_method_1_code 97 = .ok (.putfield 43, 3) := by decide +kernel
theorem d_mo_init_100 : decode prog_13_method_1_code 100 = .ok (.aload_n 0, 1) := by decide +kernel
theorem d_mo_init_101 : decode prog_13_method_1_code 101 = .ok (.sipush 240, 3) := by decide +kernel
theorem d_mo_init_104 : decode prog_13_method_1_code 104 = .ok (.newarray .int, 2) := by decide +kernel
theorem d_mo_init_106 : decode prog_13_method_1_code 106 = .ok (.putfield 46, 3) := by decide +kernel
theorem d_mo_init_109 : decode prog_13_method_1_code 109 = .ok (.aload_n 0, 1) := by decide +kernel
theorem d_mo_init_110 : decode prog_13_method_1_code 110 = .ok (.bipush 6, 2) := by decide +kernel
theorem d_mo_init_112 : decode prog_13_method_1_code 112 = .ok (.newarray .int, 2) := by decide +kernel
theorem d_mo_init_114 : decode prog_13_method_1_code 114 = .ok (.putfield 49, 3) := by decide +kernel
theorem d_mo_init_117 : decode prog_13_method_1_code 117 = .ok (.aload_n 0, 1) := by decide +kernel
theorem d_mo_init_118 : decode prog_13_method_1_code 118 = .ok (.bipush 6, 2) := by decide +kernel
theorem d_mo_init_120 : decode prog_13_method_1_code 120 = .ok (.newarray .int, 2) := by decide +kernel
theorem d_mo_init_122 : decode prog_13_method_1_code 122 = .ok (.putfield 52, 3) := by decide +kernel
theorem d_mo_init_125 : decode prog_13_method_1_code 125 = .ok (.aload_n 0, 1) := by decide +kernel
theorem d_mo_init_126 : decode prog_13_method_1_code 126 = .ok (.bipush 6, 2) := by decide +kernel
theorem d_mo_init_128 : decode prog_13_method_1_code 128 = .ok (.newarray .int, 2) := by decide +kernel
theorem d_mo_init_130 : decode prog_13_method_1_code 130 = .ok (.putfield 55, 3) := by decide +kernel
theorem d_mo_init_133 : decode prog_13_method_1_code 133 = .ok (.aload_n 0, 1) := by decide +kernel
theorem d_mo_init_134 : decode prog_13_method_1_code 134 = .ok (.bipush 12, 2) := by decide +kernel
theorem d_mo_init_136 : decode prog_13_method_1_code 136 = .ok (.newarray .int, 2) := by decide +kernel
theorem d_mo_init_138 : decode prog_13_method_1_code 138 = .ok (.putfield 58, 3) := by decide +kernel
theorem d_mo_init_141 : decode prog_13_method_1_code 141 = .ok (.aload_n 0, 1) := by decide +kernel
theorem d_mo_init_142 : decode prog_13_method_1_code 142 = .ok (.bipush 12, 2) := by decide +kernel
theorem d_mo_init_144 : decode prog_13_method_1_code 144 = .ok (.newarray .int, 2) := by decide +kernel
theorem d_mo_init_146 : decode prog_13_method_1_code 146 = .ok (.putfield 61, 3) := by decide +kernel
theorem d_mo_init_149 : decode prog_13_method_1_code 149 = .ok (.aload_n 0, 1) := by decide +kernel
theorem d_mo_init_150 : decode prog_13_method_1_code 150 = .ok (.bipush 12, 2) := by decide +kernel
theorem d_mo_init_152 : decode prog_13_method_1_code 152 = .ok (.newarray .int, 2) := by decide +kernel
theorem d_mo_init_154 : decode prog_13_method_1_code 154 = .ok (.putfield 64, 3) := by decide +kernel
theorem d_mo_init_157 : decode prog_13_method_1_code 157 = .ok (.aload_n 0, 1) := by decide +kernel
theorem d_mo_init_158 : decode prog_13_method_1_code 158 = .ok (.bipush 80, 2) := by decide +kernel
theorem d_mo_init_160 : decode prog_13_method_1_code 160 = .ok (.newarray .int, 2) := by decide +kernel
theorem d_mo_init_162 : decode prog_13_method_1_code 162 = .ok (.putfield 67, 3) := by decide +kernel
theorem d_mo_init_165 : decode prog_13_method_1_code 165 = .ok (.aload_n 0, 1) := by decide +kernel
theorem d_mo_init_166 : decode prog_13_method_1_code 166 = .ok (.bipush 41, 2) := by decide +kernel
theorem d_mo_init_168 : decode prog_13_method_1_code 168 = .ok (.newarray .int, 2) := by decide +kernel
theorem d_mo_init_170 : decode prog_13_method_1_code 170 = .ok (.putfield 70, 3) := by decide +kernel
theorem d_mo_init_173 : decode prog_13_method_1_code 173 = .ok (.iconst 0, 1) := by decide +kernel
theorem d_mo_init_174 : decode prog_13_method_1_code 174 = .ok (.istore_n 1, 1) := by decide +kernel
theorem d_mo_init_175 : decode prog_13_method_1_code 175 = .ok (.iload_n 1, 1) := by decide +kernel
theorem d_mo_init_176 : decode prog_13_method_1_code 176 = .ok (.iconst 4, 1) := by decide +kernel
theorem d_mo_init_177 : decode prog_13_method_1_code 177 = .ok (.if_icmp .ge 16, 3) := by decide +kernel
theorem d_mo_init_180 : decode prog_13_method_1_code 180 = .ok (.aload_n 0, 1) := by decide +kernel
theorem d_mo_init_181 : decode prog_13_method_1_code 181 = .ok (.getfield 7, 3) := by decide +kernel
theorem d_mo_init_184 : decode prog_13_method_1_code 184 = .ok (.iload_n 1, 1) := by decide +kernel
theorem d_mo_init_185 : decode prog_13_method_1_code 185 = .ok (.iconst (-1), 1) := by decide +kernel
theorem d_mo_init_186 : decode prog_13_method_1_code 186 = .ok (.iastore, 1) := by decide +kernel
theorem d_mo_init_187 : decode prog_13_method_1_code 187 = .ok (.iinc 1 1, 3) := by decide +kernel
theorem d_mo_init_190 : decode prog_13_method_1_code 190 = .ok (.goto (-15), 3) := by decide +kernel
theorem d_mo_init_193 : decode prog_13_method_1_code 193 = .ok (.aload_n 0, 1) := by decide +kernel
theorem d_mo_init_194 : decode prog_13_method_1_code 194 = .ok (.iconst 2, 1) := by decide +kernel
theorem d_mo_init_195 : decode prog_13_method_1_code 195 = .ok (.putfield 73, 3) := by decide +kernel
theorem d_mo_init_198 : decode prog_13_method_1_code 198 = .ok (.return_, 1) := by decide +kernel
