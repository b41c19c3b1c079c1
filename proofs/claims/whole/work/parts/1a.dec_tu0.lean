theorem d_tu_at_0 : decode prog_9_method_2_code 0 = .ok (.iload_n 1, 1) := by decide +kernel
theorem d_tu_at_1 : decode prog_9_method_2_code 1 = .ok (.ifCond .lt 20, 3) := by decide +kernel
theorem d_tu_at_4 : decode prog_9_method_2_code 4 = .ok (.iload_n 1, 1) := by decide +kernel
theorem d_tu_at_5 : decode prog_9_method_2_code 5 = .ok (.aload_n 0, 1) := by decide +kernel
theorem d_tu_at_6 : decode prog_9_method_2_code 6 = .ok (.getfield 15, 3) := by decide +kernel
theorem d_tu_at_9 : decode prog_9_method_2_code 9 = .ok (.if_icmp .ge 12, 3) := by decide +kernel
theorem d_tu_at_12 : decode prog_9_method_2_code 12 = .ok (.aload_n 0, 1) := by decide +kernel
theorem d_tu_at_13 : decode prog_9_method_2_code 13 = .ok (.getfield 9, 3) := by decide +kernel
theorem d_tu_at_16 : decode prog_9_method_2_code 16 = .ok (.iload_n 1, 1) := by decide +kernel
theorem d_tu_at_17 : decode prog_9_method_2_code 17 = .ok (.iaload, 1) := by decide +kernel
theorem d_tu_at_18 : decode prog_9_method_2_code 18 = .ok (.goto 4, 3) := by decide +kernel
theorem d_tu_at_21 : decode prog_9_method_2_code 21 = .ok (.iconst (-1), 1) := by decide +kernel
theorem d_tu_at_22 : decode prog_9_method_2_code 22 = .ok (.ireturn, 1) := by decide +kernel
theorem d_tu_add_0 : decode prog_9_method_3_code 0 = .ok (.aload_n 0, 1) := by decide +kernel
theorem d_tu_add_1 : decode prog_9_method_3_code 1 = .ok (.getfield 15, 3) := by decide +kernel
theorem d_tu_add_4 : decode prog_9_method_3_code 4 = .ok (.bipush 40, 2) := by decide +kernel
theorem d_tu_add_6 : decode prog_9_method_3_code 6 = .ok (.if_icmp .ge 23, 3) := by decide +kernel
theorem d_tu_add_9 : decode prog_9_method_3_code 9 = .ok (.aload_n 0, 1) := by decide +kernel
theorem d_tu_add_10 : decode prog_9_method_3_code 10 = .ok (.getfield 9, 3) := by decide +kernel
theorem d_tu_add_13 : decode prog_9_method_3_code 13 = .ok (.aload_n 0, 1) := by decide +kernel
theorem d_tu_add_14 : decode prog_9_method_3_code 14 = .ok (.getfield 15, 3) := by decide +kernel
theorem d_tu_add_17 : decode prog_9_method_3_code 17 = .ok (.iload_n 1, 1) := by decide +kernel
theorem d_tu_add_18 : decode prog_9_method_3_code 18 = .ok (.iastore, 1) := by decide +kernel
theorem d_tu_add_19 : decode prog_9_method_3_code 19 = .ok (.aload_n 0, 1) := by decide +kernel
theorem d_tu_add_20 : decode prog_9_method_3_code 20 = .ok (.dup, 1) := by decide +kernel
theorem d_tu_add_21 : decode prog_9_method_3_code 21 = .ok (.getfield 15, 3) := by decide +kernel
theorem d_tu_add_24 : decode prog_9_method_3_code 24 = .ok (.iconst 1, 1) := by decide +kernel
theorem d_tu_add_25 : decode prog_9_method_3_code 25 = .ok (.iadd, 1) := by decide +kernel
theorem d_tu_add_26 : decode prog_9_method_3_code 26 = .ok (.putfield 15, 3) := by decide +kernel
theorem d_tu_add_29 : decode prog_9_method_3_code 29 = .ok (.return_, 1) := by decide +kernel
theorem d_tu_become_0 : decode prog_9_method_4_code 0 = .ok (.aload_n 1, 1) := by decide +kernel
theorem d_tu_become_1 : decode prog_9_method_4_code 1 = .ok (.getfield 9, 3) := by decide +kernel
theorem d_tu_become_4 : decode prog_9_method_4_code 4 = .ok (.iconst 0, 1) := by decide +kernel
theorem d_tu_become_5 : decode prog_9_method_4_code 5 = .ok (.aload_n 0, 1) := by decide +kernel
theorem d_tu_become_6 : decode prog_9_method_4_code 6 = .ok (.getfield 9, 3) := by decide +kernel
theorem d_tu_become_9 : decode prog_9_method_4_code 9 = .ok (.iconst 0, 1) := by decide +kernel
theorem d_tu_become_10 : decode prog_9_method_4_code 10 = .ok (.aload_n 1, 1) := by decide +kernel
theorem d_tu_become_11 : decode prog_9_method_4_code 11 = .ok (.getfield 15, 3) := by decide +kernel
theorem d_tu_become_14 : decode prog_9_method_4_code 14 = .ok (.invokestatic 19, 3) := by decide +kernel
theorem d_tu_become_17 : decode prog_9_method_4_code 17 = .ok (.aload_n 0, 1) := by decide +kernel
theorem d_tu_become_18 : decode prog_9_method_4_code 18 = .ok (.aload_n 1, 1) := by decide +kernel
theorem d_tu_become_19 : decode prog_9_method_4_code 19 = .ok (.getfield 15, 3) := by decide +kernel
theorem d_tu_become_22 : decode prog_9_method_4_code 22 = .ok (.putfield 15, 3) := by decide +kernel
theorem d_tu_become_25 : decode prog_9_method_4_code 25 = .ok (.return_, 1) := by decide +kernel
theorem d_tu_becomeHummed_0 : decode prog_9_method_5_code 0 = .ok (.aload_n 0, 1) := by decide +kernel
theorem d_tu_becomeHummed_1 : decode prog_9_method_5_code 1 = .ok (.iconst 0, 1) := by decide +kernel
theorem d_tu_becomeHummed_2 : decode prog_9_method_5_code 2 = .ok (.putfield 15, 3) := by decide +kernel
theorem d_tu_becomeHummed_5 : decode prog_9_method_5_code 5 = .ok (.iconst 0, 1) := by decide +kernel
theorem d_tu_becomeHummed_6 : decode prog_9_method_5_code 6 = .ok (.istore_n 3, 1) := by decide +kernel
theorem d_tu_becomeHummed_7 : decode prog_9_method_5_code 7 = .ok (.iload_n 3, 1) := by decide +kernel
theorem d_tu_becomeHummed_8 : decode prog_9_method_5_code 8 = .ok (.aload_n 1, 1) := by decide +kernel
theorem d_tu_becomeHummed_9 : decode prog_9_method_5_code 9 = .ok (.getfield 15, 3) := by decide +kernel
theorem d_tu_becomeHummed_12 : decode prog_9_method_5_code 12 = .ok (.if_icmp .ge 72, 3) := by decide +kernel
theorem d_tu_becomeHummed_15 : decode prog_9_method_5_code 15 = .ok (.aload_n 1, 1) := by decide +kernel
theorem d_tu_becomeHummed_16 : decode prog_9_method_5_code 16 = .ok (.getfield 9, 3) := by decide +kernel
theorem d_tu_becomeHummed_19 : decode prog_9_method_5_code 19 = .ok (.iload_n 3, 1) := by decide +kernel
theorem d_tu_becomeHummed_20 : decode prog_9_method_5_code 20 = .ok (.iaload, 1) := by decide +kernel
theorem d_tu_becomeHummed_21 : decode prog_9_method_5_code 21 = .ok (.istore 4, 2) := by decide +kernel
theorem d_tu_becomeHummed_23 : decode prog_9_method_5_code 23 = .ok (.iload 4, 2) := by decide +kernel
theorem d_tu_becomeHummed_25 : decode prog_9_method_5_code 25 = .ok (.aload_n 2, 1) := by decide +kernel
theorem d_tu_becomeHummed_26 : decode prog_9_method_5_code 26 = .ok (.getfield 25, 3) := by decide +kernel
theorem d_tu_becomeHummed_29 : decode prog_9_method_5_code 29 = .ok (.if_icmp .ne 7, 3) := by decide +kernel
theorem d_tu_becomeHummed_32 : decode prog_9_method_5_code 32 = .ok (.iconst 1, 1) := by decide +kernel
theorem d_tu_becomeHummed_33 : decode prog_9_method_5_code 33 = .ok (.goto 4, 3) := by decide +kernel
theorem d_tu_becomeHummed_36 : decode prog_9_method_5_code 36 = .ok (.iconst 0, 1) := by decide +kernel
theorem d_tu_becomeHummed_37 : decode prog_9_method_5_code 37 = .ok (.istore 5, 2) := by decide +kernel
theorem d_tu_becomeHummed_39 : decode prog_9_method_5_code 39 = .ok (.iload 5, 2) := by decide +kernel
theorem d_tu_becomeHummed_41 : decode prog_9_method_5_code 41 = .ok (.ifCond .eq 10, 3) := by decide +kernel
theorem d_tu_becomeHummed_44 : decode prog_9_method_5_code 44 = .ok (.aload_n 2, 1) := by decide +kernel
theorem d_tu_becomeHummed_45 : decode prog_9_method_5_code 45 = .ok (.getfield 30, 3) := by decide +kernel
theorem d_tu_becomeHummed_48 : decode prog_9_method_5_code 48 = .ok (.ifCond .ne 9, 3) := by decide +kernel
theorem d_tu_becomeHummed_51 : decode prog_9_method_5_code 51 = .ok (.aload_n 0, 1) := by decide +kernel
theorem d_tu_becomeHummed_52 : decode prog_9_method_5_code 52 = .ok (.iload 4, 2) := by decide +kernel
theorem d_tu_becomeHummed_54 : decode prog_9_method_5_code 54 = .ok (.invokevirtual 33, 3) := by decide +kernel
theorem d_tu_becomeHummed_57 : decode prog_9_method_5_code 57 = .ok (.iload 5, 2) := by decide +kernel
theorem d_tu_becomeHummed_59 : decode prog_9_method_5_code 59 = .ok (.ifCond .eq 19, 3) := by decide +kernel
theorem d_tu_becomeHummed_62 : decode prog_9_method_5_code 62 = .ok (.aload_n 2, 1) := by decide +kernel
theorem d_tu_becomeHummed_63 : decode prog_9_method_5_code 63 = .ok (.getfield 30, 3) := by decide +kernel
theorem d_tu_becomeHummed_66 : decode prog_9_method_5_code 66 = .ok (.iconst 1, 1) := by decide +kernel
theorem d_tu_becomeHummed_67 : decode prog_9_method_5_code 67 = .ok (.if_icmp .eq 11, 3) := by decide +kernel
theorem d_tu_becomeHummed_70 : decode prog_9_method_5_code 70 = .ok (.aload_n 0, 1) := by decide +kernel
theorem d_tu_becomeHummed_71 : decode prog_9_method_5_code 71 = .ok (.aload_n 2, 1) := by decide +kernel
theorem d_tu_becomeHummed_72 : decode prog_9_method_5_code 72 = .ok (.getfield 37, 3) := by decide +kernel
theorem d_tu_becomeHummed_75 : decode prog_9_method_5_code 75 = .ok (.invokevirtual 33, 3) := by decide +kernel
theorem d_tu_becomeHummed_78 : decode prog_9_method_5_code 78 = .ok (.iinc 3 1, 3) := by decide +kernel
theorem d_tu_becomeHummed_81 : decode prog_9_method_5_code 81 = .ok (.goto (-74), 3) := by decide +kernel
theorem d_tu_becomeHummed_84 : decode prog_9_method_5_code 84 = .ok (.return_, 1) := by decide +kernel
theorem d_tu_bits_0 : decode prog_9_method_6_code 0 = .ok (.iconst 0, 1) := by decide +kernel
theorem d_tu_bits_1 : decode prog_9_method_6_code 1 = .ok (.istore_n 1, 1) := by decide +kernel
theorem d_tu_bits_2 : decode prog_9_method_6_code 2 = .ok (.iconst 0, 1) := by decide +kernel
theorem d_tu_bits_3 : decode prog_9_method_6_code 3 = .ok (.istore_n 2, 1) := by decide +kernel
theorem d_tu_bits_4 : decode prog_9_method_6_code 4 = .ok (.iload_n 2, 1) := by decide +kernel
theorem d_tu_bits_5 : decode prog_9_method_6_code 5 = .ok (.aload_n 0, 1) := by decide +kernel
theorem d_tu_bits_6 : decode prog_9_method_6_code 6 = .ok (.getfield 15, 3) := by decide +kernel
theorem d_tu_bits_9 : decode prog_9_method_6_code 9 = .ok (.if_icmp .ge 20, 3) := by decide +kernel
theorem d_tu_bits_12 : decode prog_9_method_6_code 12 = .ok (.iload_n 1, 1) := by decide +kernel
theorem d_tu_bits_13 : decode prog_9_method_6_code 13 = .ok (.iconst 1, 1) := by decide +kernel
theorem d_tu_bits_14 : decode prog_9_method_6_code 14 = .ok (.aload_n 0, 1) := by decide +kernel
theorem d_tu_bits_15 : decode prog_9_method_6_code 15 = .ok (.getfield 9, 3) := by decide +kernel
theorem d_tu_bits_18 : decode prog_9_method_6_code 18 = .ok (.iload_n 2, 1) := by decide +kernel
theorem d_tu_bits_19 : decode prog_9_method_6_code 19 = .ok (.iaload, 1) := by decide +kernel
theorem d_tu_bits_20 : decode prog_9_method_6_code 20 = .ok (.ishl, 1) := by decide +kernel
theorem d_tu_bits_21 : decode prog_9_method_6_code 21 = .ok (.ior, 1) := by decide +kernel
theorem d_tu_bits_22 : decode prog_9_method_6_code 22 = .ok (.istore_n 1, 1) := by decide +kernel
theorem d_tu_bits_23 : decode prog_9_method_6_code 23 = .ok (.iinc 2 1, 3) := by decide +kernel
theorem d_tu_bits_26 : decode prog_9_method_6_code 26 = .ok (.goto (-22), 3) := by decide +kernel
theorem d_tu_bits_29 : decode prog_9_method_6_code 29 = .ok (.iload_n 1, 1) := by decide +kernel
theorem d_tu_bits_30 : decode prog_9_method_6_code 30 = .ok (.ireturn, 1) := by decide +kernel
theorem d_tu_isLike_0 : decode prog_9_method_7_code 0 = .ok (.aload_n 0, 1) := by decide +kernel
theorem d_tu_isLike_1 : decode prog_9_method_7_code 1 = .ok (.getfield 15, 3) := by decide +kernel
theorem d_tu_isLike_4 : decode prog_9_method_7_code 4 = .ok (.aload_n 1, 1) := by decide +kernel
theorem d_tu_isLike_5 : decode prog_9_method_7_code 5 = .ok (.getfield 15, 3) := by decide +kernel
theorem d_tu_isLike_8 : decode prog_9_method_7_code 8 = .ok (.if_icmp .eq 5, 3) := by decide +kernel
theorem d_tu_isLike_11 : decode prog_9_method_7_code 11 = .ok (.iconst 0, 1) := by decide +kernel
theorem d_tu_isLike_12 : decode prog_9_method_7_code 12 = .ok (.ireturn, 1) := by decide +kernel
theorem d_tu_isLike_13 : decode prog_9_method_7_code 13 = .ok (.iconst 0, 1) := by decide +kernel
theorem d_tu_isLike_14 : decode prog_9_method_7_code 14 = .ok (.istore_n 2, 1) := by decide +kernel
theorem d_tu_isLike_15 : decode prog_9_method_7_code 15 = .ok (.iload_n 2, 1) := by decide +kernel
theorem d_tu_isLike_16 : decode prog_9_method_7_code 16 = .ok (.aload_n 0, 1) := by decide +kernel
theorem d_tu_isLike_17 : decode prog_9_method_7_code 17 = .ok (.getfield 15, 3) := by decide +kernel
theorem d_tu_isLike_20 : decode prog_9_method_7_code 20 = .ok (.if_icmp .ge 26, 3) := by decide +kernel
theorem d_tu_isLike_23 : decode prog_9_method_7_code 23 = .ok (.aload_n 0, 1) := by decide +kernel
theorem d_tu_isLike_24 : decode prog_9_method_7_code 24 = .ok (.getfield 9, 3) := by decide +kernel
theorem d_tu_isLike_27 : decode prog_9_method_7_code 27 = .ok (.iload_n 2, 1) := by decide +kernel
theorem d_tu_isLike_28 : decode prog_9_method_7_code 28 = .ok (.iaload, 1) := by decide +kernel
theorem d_tu_isLike_29 : decode prog_9_method_7_code 29 = .ok (.aload_n 1, 1) := by decide +kernel
theorem d_tu_isLike_30 : decode prog_9_method_7_code 30 = .ok (.getfield 9, 3) := by decide +kernel
theorem d_tu_isLike_33 : decode prog_9_method_7_code 33 = .ok (.iload_n 2, 1) := by decide +kernel
theorem d_tu_isLike_34 : decode prog_9_method_7_code 34 = .ok (.iaload, 1) := by decide +kernel
theorem d_tu_isLike_35 : decode prog_9_method_7_code 35 = .ok (.if_icmp .eq 5, 3) := by decide +kernel
theorem d_tu_isLike_38 : decode prog_9_method_7_code 38 = .ok (.iconst 0, 1) := by decide +kernel
theorem d_tu_isLike_39 : decode prog_9_method_7_code 39 = .ok (.ireturn, 1) := by decide +kernel
theorem d_tu_isLike_40 : decode prog_9_method_7_code 40 = .ok (.iinc 2 1, 3) := by decide +kernel
theorem d_tu_isLike_43 : decode prog_9_method_7_code 43 = .ok (.goto (-28), 3) := by decide +kernel
theorem d_tu_isLike_46 : decode prog_9_method_7_code 46 = .ok (.iconst 1, 1) := by decide +kernel
theorem d_tu_isLike_47 : decode prog_9_method_7_code 47 = .ok (.ireturn, 1) := by decide +kernel
