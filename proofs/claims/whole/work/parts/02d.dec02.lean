theorem d_tl_type_0 : decode prog_1_method_2_code 0 = .ok (.iload_n 1, 1) := by decide +kernel
theorem d_tl_type_1 : decode prog_1_method_2_code 1 = .ok (.invokestatic 55, 3) := by decide +kernel
theorem d_tl_type_4 : decode prog_1_method_2_code 4 = .ok (.ifCond .eq 14, 3) := by decide +kernel
theorem d_tl_type_7 : decode prog_1_method_2_code 7 = .ok (.iload_n 2, 1) := by decide +kernel
theorem d_tl_type_8 : decode prog_1_method_2_code 8 = .ok (.iconst 0, 1) := by decide +kernel
theorem d_tl_type_9 : decode prog_1_method_2_code 9 = .ok (.sipush 255, 3) := by decide +kernel
theorem d_tl_type_12 : decode prog_1_method_2_code 12 = .ok (.invokestatic 59, 3) := by decide +kernel
theorem d_tl_type_15 : decode prog_1_method_2_code 15 = .ok (.ifCond .ne 6, 3) := by decide +kernel
theorem d_tl_type_18 : decode prog_1_method_2_code 18 = .ok (.bipush (-2), 2) := by decide +kernel
theorem d_tl_type_20 : decode prog_1_method_2_code 20 = .ok (.ireturn, 1) := by decide +kernel
theorem d_tl_type_21 : decode prog_1_method_2_code 21 = .ok (.aload_n 0, 1) := by decide +kernel
theorem d_tl_type_22 : decode prog_1_method_2_code 22 = .ok (.getfield 10, 3) := by decide +kernel
theorem d_tl_type_25 : decode prog_1_method_2_code 25 = .ok (.getfield 63, 3) := by decide +kernel
theorem d_tl_type_28 : decode prog_1_method_2_code 28 = .ok (.iload_n 1, 1) := by decide +kernel
theorem d_tl_type_29 : decode prog_1_method_2_code 29 = .ok (.aaload, 1) := by decide +kernel
theorem d_tl_type_30 : decode prog_1_method_2_code 30 = .ok (.astore_n 3, 1) := by decide +kernel
theorem d_tl_type_31 : decode prog_1_method_2_code 31 = .ok (.aload_n 3, 1) := by decide +kernel
theorem d_tl_type_32 : decode prog_1_method_2_code 32 = .ok (.getfield 67, 3) := by decide +kernel
theorem d_tl_type_35 : decode prog_1_method_2_code 35 = .ok (.aload_n 3, 1) := by decide +kernel
theorem d_tl_type_36 : decode prog_1_method_2_code 36 = .ok (.getfield 72, 3) := by decide +kernel
theorem d_tl_type_39 : decode prog_1_method_2_code 39 = .ok (.arraylength, 1) := by decide +kernel
theorem d_tl_type_40 : decode prog_1_method_2_code 40 = .ok (.if_icmp .lt 6, 3) := by decide +kernel
theorem d_tl_type_43 : decode prog_1_method_2_code 43 = .ok (.bipush (-4), 2) := by decide +kernel
theorem d_tl_type_45 : decode prog_1_method_2_code 45 = .ok (.ireturn, 1) := by decide +kernel
theorem d_tl_type_46 : decode prog_1_method_2_code 46 = .ok (.aload_n 3, 1) := by decide +kernel
theorem d_tl_type_47 : decode prog_1_method_2_code 47 = .ok (.getfield 72, 3) := by decide +kernel
theorem d_tl_type_50 : decode prog_1_method_2_code 50 = .ok (.aload_n 3, 1) := by decide +kernel
theorem d_tl_type_51 : decode prog_1_method_2_code 51 = .ok (.getfield 67, 3) := by decide +kernel
theorem d_tl_type_54 : decode prog_1_method_2_code 54 = .ok (.iload_n 2, 1) := by decide +kernel
theorem d_tl_type_55 : decode prog_1_method_2_code 55 = .ok (.iastore, 1) := by decide +kernel
theorem d_tl_type_56 : decode prog_1_method_2_code 56 = .ok (.aload_n 0, 1) := by decide +kernel
theorem d_tl_type_57 : decode prog_1_method_2_code 57 = .ok (.iload_n 1, 1) := by decide +kernel
theorem d_tl_type_58 : decode prog_1_method_2_code 58 = .ok (.aload_n 3, 1) := by decide +kernel
theorem d_tl_type_59 : decode prog_1_method_2_code 59 = .ok (.getfield 67, 3) := by decide +kernel
theorem d_tl_type_62 : decode prog_1_method_2_code 62 = .ok (.iconst 1, 1) := by decide +kernel
theorem d_tl_type_63 : decode prog_1_method_2_code 63 = .ok (.iadd, 1) := by decide +kernel
theorem d_tl_type_64 : decode prog_1_method_2_code 64 = .ok (.invokevirtual 76, 3) := by decide +kernel
theorem d_tl_type_67 : decode prog_1_method_2_code 67 = .ok (.ireturn, 1) := by decide +kernel
theorem d_tl_wipe_0 : decode prog_1_method_3_code 0 = .ok (.iload_n 1, 1) := by decide +kernel
theorem d_tl_wipe_1 : decode prog_1_method_3_code 1 = .ok (.invokestatic 55, 3) := by decide +kernel
theorem d_tl_wipe_4 : decode prog_1_method_3_code 4 = .ok (.ifCond .ne 6, 3) := by decide +kernel
theorem d_tl_wipe_7 : decode prog_1_method_3_code 7 = .ok (.bipush (-2), 2) := by decide +kernel
theorem d_tl_wipe_9 : decode prog_1_method_3_code 9 = .ok (.ireturn, 1) := by decide +kernel
theorem d_tl_wipe_10 : decode prog_1_method_3_code 10 = .ok (.aload_n 0, 1) := by decide +kernel
theorem d_tl_wipe_11 : decode prog_1_method_3_code 11 = .ok (.getfield 10, 3) := by decide +kernel
theorem d_tl_wipe_14 : decode prog_1_method_3_code 14 = .ok (.getfield 63, 3) := by decide +kernel
theorem d_tl_wipe_17 : decode prog_1_method_3_code 17 = .ok (.iload_n 1, 1) := by decide +kernel
theorem d_tl_wipe_18 : decode prog_1_method_3_code 18 = .ok (.aaload, 1) := by decide +kernel
theorem d_tl_wipe_19 : decode prog_1_method_3_code 19 = .ok (.getfield 67, 3) := by decide +kernel
theorem d_tl_wipe_22 : decode prog_1_method_3_code 22 = .ok (.istore_n 2, 1) := by decide +kernel
theorem d_tl_wipe_23 : decode prog_1_method_3_code 23 = .ok (.aload_n 0, 1) := by decide +kernel
theorem d_tl_wipe_24 : decode prog_1_method_3_code 24 = .ok (.iload_n 1, 1) := by decide +kernel
theorem d_tl_wipe_25 : decode prog_1_method_3_code 25 = .ok (.iconst 0, 1) := by decide +kernel
theorem d_tl_wipe_26 : decode prog_1_method_3_code 26 = .ok (.invokevirtual 76, 3) := by decide +kernel
theorem d_tl_wipe_29 : decode prog_1_method_3_code 29 = .ok (.pop, 1) := by decide +kernel
theorem d_tl_wipe_30 : decode prog_1_method_3_code 30 = .ok (.iload_n 2, 1) := by decide +kernel
theorem d_tl_wipe_31 : decode prog_1_method_3_code 31 = .ok (.ireturn, 1) := by decide +kernel
theorem d_tl_undo_0 : decode prog_1_method_4_code 0 = .ok (.iload_n 1, 1) := by decide +kernel
theorem d_tl_undo_1 : decode prog_1_method_4_code 1 = .ok (.invokestatic 55, 3) := by decide +kernel
theorem d_tl_undo_4 : decode prog_1_method_4_code 4 = .ok (.ifCond .ne 6, 3) := by decide +kernel
theorem d_tl_undo_7 : decode prog_1_method_4_code 7 = .ok (.bipush (-2), 2) := by decide +kernel
theorem d_tl_undo_9 : decode prog_1_method_4_code 9 = .ok (.ireturn, 1) := by decide +kernel
theorem d_tl_undo_10 : decode prog_1_method_4_code 10 = .ok (.aload_n 0, 1) := by decide +kernel
theorem d_tl_undo_11 : decode prog_1_method_4_code 11 = .ok (.getfield 10, 3) := by decide +kernel
theorem d_tl_undo_14 : decode prog_1_method_4_code 14 = .ok (.getfield 63, 3) := by decide +kernel
theorem d_tl_undo_17 : decode prog_1_method_4_code 17 = .ok (.iload_n 1, 1) := by decide +kernel
theorem d_tl_undo_18 : decode prog_1_method_4_code 18 = .ok (.aaload, 1) := by decide +kernel
theorem d_tl_undo_19 : decode prog_1_method_4_code 19 = .ok (.getfield 67, 3) := by decide +kernel
theorem d_tl_undo_22 : decode prog_1_method_4_code 22 = .ok (.istore_n 2, 1) := by decide +kernel
theorem d_tl_undo_23 : decode prog_1_method_4_code 23 = .ok (.iload_n 2, 1) := by decide +kernel
theorem d_tl_undo_24 : decode prog_1_method_4_code 24 = .ok (.ifCond .ne 8, 3) := by decide +kernel
theorem d_tl_undo_27 : decode prog_1_method_4_code 27 = .ok (.bipush (-3), 2) := by decide +kernel
theorem d_tl_undo_29 : decode prog_1_method_4_code 29 = .ok (.goto 11, 3) := by decide +kernel
theorem d_tl_undo_32 : decode prog_1_method_4_code 32 = .ok (.aload_n 0, 1) := by decide +kernel
theorem d_tl_undo_33 : decode prog_1_method_4_code 33 = .ok (.iload_n 1, 1) := by decide +kernel
theorem d_tl_undo_34 : decode prog_1_method_4_code 34 = .ok (.iload_n 2, 1) := by decide +kernel
theorem d_tl_undo_35 : decode prog_1_method_4_code 35 = .ok (.iconst 1, 1) := by decide +kernel
theorem d_tl_undo_36 : decode prog_1_method_4_code 36 = .ok (.isub, 1) := by decide +kernel
theorem d_tl_undo_37 : decode prog_1_method_4_code 37 = .ok (.invokevirtual 76, 3) := by decide +kernel
theorem d_tl_undo_40 : decode prog_1_method_4_code 40 = .ok (.ireturn, 1) := by decide +kernel
theorem d_tl_fault_0 : decode prog_1_method_5_code 0 = .ok (.iload_n 1, 1) := by decide +kernel
theorem d_tl_fault_1 : decode prog_1_method_5_code 1 = .ok (.invokestatic 55, 3) := by decide +kernel
theorem d_tl_fault_4 : decode prog_1_method_5_code 4 = .ok (.ifCond .eq 18, 3) := by decide +kernel
theorem d_tl_fault_7 : decode prog_1_method_5_code 7 = .ok (.aload_n 0, 1) := by decide +kernel
theorem d_tl_fault_8 : decode prog_1_method_5_code 8 = .ok (.getfield 10, 3) := by decide +kernel
theorem d_tl_fault_11 : decode prog_1_method_5_code 11 = .ok (.getfield 63, 3) := by decide +kernel
theorem d_tl_fault_14 : decode prog_1_method_5_code 14 = .ok (.iload_n 1, 1) := by decide +kernel
theorem d_tl_fault_15 : decode prog_1_method_5_code 15 = .ok (.aaload, 1) := by decide +kernel
theorem d_tl_fault_16 : decode prog_1_method_5_code 16 = .ok (.getfield 80, 3) := by decide +kernel
theorem d_tl_fault_19 : decode prog_1_method_5_code 19 = .ok (.goto 5, 3) := by decide +kernel
theorem d_tl_fault_22 : decode prog_1_method_5_code 22 = .ok (.bipush (-2), 2) := by decide +kernel
theorem d_tl_fault_24 : decode prog_1_method_5_code 24 = .ok (.ireturn, 1) := by decide +kernel
theorem d_tl_tune_0 : decode prog_1_method_6_code 0 = .ok (.aload_n 0, 1) := by decide +kernel
theorem d_tl_tune_1 : decode prog_1_method_6_code 1 = .ok (.iload_n 1, 1) := by decide +kernel
theorem d_tl_tune_2 : decode prog_1_method_6_code 2 = .ok (.invokevirtual 83, 3) := by decide +kernel
theorem d_tl_tune_5 : decode prog_1_method_6_code 5 = .ok (.ifCond .eq 13, 3) := by decide +kernel
theorem d_tl_tune_8 : decode prog_1_method_6_code 8 = .ok (.iload_n 2, 1) := by decide +kernel
theorem d_tl_tune_9 : decode prog_1_method_6_code 9 = .ok (.iconst (-1), 1) := by decide +kernel
theorem d_tl_tune_10 : decode prog_1_method_6_code 10 = .ok (.bipush 11, 2) := by decide +kernel
theorem d_tl_tune_12 : decode prog_1_method_6_code 12 = .ok (.invokestatic 59, 3) := by decide +kernel
theorem d_tl_tune_15 : decode prog_1_method_6_code 15 = .ok (.ifCond .ne 6, 3) := by decide +kernel
theorem d_tl_tune_18 : decode prog_1_method_6_code 18 = .ok (.bipush (-2), 2) := by decide +kernel
theorem d_tl_tune_20 : decode prog_1_method_6_code 20 = .ok (.ireturn, 1) := by decide +kernel
theorem d_tl_tune_21 : decode prog_1_method_6_code 21 = .ok (.aload_n 0, 1) := by decide +kernel
theorem d_tl_tune_22 : decode prog_1_method_6_code 22 = .ok (.getfield 10, 3) := by decide +kernel
theorem d_tl_tune_25 : decode prog_1_method_6_code 25 = .ok (.getfield 86, 3) := by decide +kernel
theorem d_tl_tune_28 : decode prog_1_method_6_code 28 = .ok (.iload_n 1, 1) := by decide +kernel
theorem d_tl_tune_29 : decode prog_1_method_6_code 29 = .ok (.aaload, 1) := by decide +kernel
theorem d_tl_tune_30 : decode prog_1_method_6_code 30 = .ok (.astore_n 3, 1) := by decide +kernel
theorem d_tl_tune_31 : decode prog_1_method_6_code 31 = .ok (.iload_n 2, 1) := by decide +kernel
theorem d_tl_tune_32 : decode prog_1_method_6_code 32 = .ok (.iconst (-1), 1) := by decide +kernel
theorem d_tl_tune_33 : decode prog_1_method_6_code 33 = .ok (.if_icmp .ne 10, 3) := by decide +kernel
theorem d_tl_tune_36 : decode prog_1_method_6_code 36 = .ok (.aload_n 3, 1) := by decide +kernel
theorem d_tl_tune_37 : decode prog_1_method_6_code 37 = .ok (.getfield 90, 3) := by decide +kernel
theorem d_tl_tune_40 : decode prog_1_method_6_code 40 = .ok (.goto 8, 3) := by decide +kernel
theorem d_tl_tune_43 : decode prog_1_method_6_code 43 = .ok (.aload_n 3, 1) := by decide +kernel
theorem d_tl_tune_44 : decode prog_1_method_6_code 44 = .ok (.iload_n 2, 1) := by decide +kernel
theorem d_tl_tune_45 : decode prog_1_method_6_code 45 = .ok (.invokevirtual 93, 3) := by decide +kernel
theorem d_tl_tune_48 : decode prog_1_method_6_code 48 = .ok (.ireturn, 1) := by decide +kernel
theorem d_tl_borrower_0 : decode prog_1_method_7_code 0 = .ok (.aload_n 0, 1) := by decide +kernel
theorem d_tl_borrower_1 : decode prog_1_method_7_code 1 = .ok (.iload_n 1, 1) := by decide +kernel
theorem d_tl_borrower_2 : decode prog_1_method_7_code 2 = .ok (.invokevirtual 97, 3) := by decide +kernel
theorem d_tl_borrower_5 : decode prog_1_method_7_code 5 = .ok (.ifCond .eq 12, 3) := by decide +kernel
theorem d_tl_borrower_8 : decode prog_1_method_7_code 8 = .ok (.iload_n 2, 1) := by decide +kernel
theorem d_tl_borrower_9 : decode prog_1_method_7_code 9 = .ok (.iconst 0, 1) := by decide +kernel
theorem d_tl_borrower_10 : decode prog_1_method_7_code 10 = .ok (.iconst 2, 1) := by decide +kernel
theorem d_tl_borrower_11 : decode prog_1_method_7_code 11 = .ok (.invokestatic 59, 3) := by decide +kernel
theorem d_tl_borrower_14 : decode prog_1_method_7_code 14 = .ok (.ifCond .ne 6, 3) := by decide +kernel
theorem d_tl_borrower_17 : decode prog_1_method_7_code 17 = .ok (.bipush (-2), 2) := by decide +kernel
theorem d_tl_borrower_19 : decode prog_1_method_7_code 19 = .ok (.ireturn, 1) := by decide +kernel
theorem d_tl_borrower_20 : decode prog_1_method_7_code 20 = .ok (.aload_n 0, 1) := by decide +kernel
theorem d_tl_borrower_21 : decode prog_1_method_7_code 21 = .ok (.getfield 10, 3) := by decide +kernel
theorem d_tl_borrower_24 : decode prog_1_method_7_code 24 = .ok (.getfield 100, 3) := by decide +kernel
theorem d_tl_borrower_27 : decode prog_1_method_7_code 27 = .ok (.iload_n 1, 1) := by decide +kernel
theorem d_tl_borrower_28 : decode prog_1_method_7_code 28 = .ok (.aaload, 1) := by decide +kernel
theorem d_tl_borrower_29 : decode prog_1_method_7_code 29 = .ok (.astore_n 3, 1) := by decide +kernel
theorem d_tl_borrower_30 : decode prog_1_method_7_code 30 = .ok (.iload_n 2, 1) := by decide +kernel
theorem d_tl_borrower_31 : decode prog_1_method_7_code 31 = .ok (.ifCond .ne 10, 3) := by decide +kernel
theorem d_tl_borrower_34 : decode prog_1_method_7_code 34 = .ok (.aload_n 3, 1) := by decide +kernel
theorem d_tl_borrower_35 : decode prog_1_method_7_code 35 = .ok (.getfield 104, 3) := by decide +kernel
theorem d_tl_borrower_38 : decode prog_1_method_7_code 38 = .ok (.goto 19, 3) := by decide +kernel
theorem d_tl_borrower_41 : decode prog_1_method_7_code 41 = .ok (.iload_n 2, 1) := by decide +kernel
theorem d_tl_borrower_42 : decode prog_1_method_7_code 42 = .ok (.iconst 1, 1) := by decide +kernel
theorem d_tl_borrower_43 : decode prog_1_method_7_code 43 = .ok (.if_icmp .ne 10, 3) := by decide +kernel
theorem d_tl_borrower_46 : decode prog_1_method_7_code 46 = .ok (.aload_n 3, 1) := by decide +kernel
theorem d_tl_borrower_47 : decode prog_1_method_7_code 47 = .ok (.getfield 109, 3) := by decide +kernel
theorem d_tl_borrower_50 : decode prog_1_method_7_code 50 = .ok (.goto 7, 3) := by decide +kernel
theorem d_tl_borrower_53 : decode prog_1_method_7_code 53 = .ok (.aload_n 3, 1) := by decide +kernel
theorem d_tl_borrower_54 : decode prog_1_method_7_code 54 = .ok (.getfield 112, 3) := by decide +kernel
theorem d_tl_borrower_57 : decode prog_1_method_7_code 57 = .ok (.ireturn, 1) := by decide +kernel
theorem d_tl_loan_0 : decode prog_1_method_8_code 0 = .ok (.iload_n 1, 1) := by decide +kernel
theorem d_tl_loan_1 : decode prog_1_method_8_code 1 = .ok (.invokestatic 115, 3) := by decide +kernel
theorem d_tl_loan_4 : decode prog_1_method_8_code 4 = .ok (.ifCond .eq 32, 3) := by decide +kernel
theorem d_tl_loan_7 : decode prog_1_method_8_code 7 = .ok (.iload_n 2, 1) := by decide +kernel
theorem d_tl_loan_8 : decode prog_1_method_8_code 8 = .ok (.iconst 0, 1) := by decide +kernel
theorem d_tl_loan_9 : decode prog_1_method_8_code 9 = .ok (.iconst 5, 1) := by decide +kernel
theorem d_tl_loan_10 : decode prog_1_method_8_code 10 = .ok (.invokestatic 59, 3) := by decide +kernel
theorem d_tl_loan_13 : decode prog_1_method_8_code 13 = .ok (.ifCond .eq 23, 3) := by decide +kernel
theorem d_tl_loan_16 : decode prog_1_method_8_code 16 = .ok (.iload_n 3, 1) := by decide +kernel
theorem d_tl_loan_17 : decode prog_1_method_8_code 17 = .ok (.iconst 0, 1) := by decide +kernel
theorem d_tl_loan_18 : decode prog_1_method_8_code 18 = .ok (.iconst 5, 1) := by decide +kernel
theorem d_tl_loan_19 : decode prog_1_method_8_code 19 = .ok (.invokestatic 59, 3) := by decide +kernel
theorem d_tl_loan_22 : decode prog_1_method_8_code 22 = .ok (.ifCond .eq 14, 3) := by decide +kernel
theorem d_tl_loan_25 : decode prog_1_method_8_code 25 = .ok (.iload 4, 2) := by decide +kernel
theorem d_tl_loan_27 : decode prog_1_method_8_code 27 = .ok (.iconst 1, 1) := by decide +kernel
theorem d_tl_loan_28 : decode prog_1_method_8_code 28 = .ok (.bipush 9, 2) := by decide +kernel
theorem d_tl_loan_30 : decode prog_1_method_8_code 30 = .ok (.invokestatic 59, 3) := by decide +kernel
theorem d_tl_loan_33 : decode prog_1_method_8_code 33 = .ok (.ifCond .ne 6, 3) := by decide +kernel
theorem d_tl_loan_36 : decode prog_1_method_8_code 36 = .ok (.bipush (-2), 2) := by decide +kernel
theorem d_tl_loan_38 : decode prog_1_method_8_code 38 = .ok (.ireturn, 1) := by decide +kernel
theorem d_tl_loan_39 : decode prog_1_method_8_code 39 = .ok (.aload_n 0, 1) := by decide +kernel
theorem d_tl_loan_40 : decode prog_1_method_8_code 40 = .ok (.getfield 10, 3) := by decide +kernel
theorem d_tl_loan_43 : decode prog_1_method_8_code 43 = .ok (.getfield 118, 3) := by decide +kernel
theorem d_tl_loan_46 : decode prog_1_method_8_code 46 = .ok (.bipush 12, 2) := by decide +kernel
theorem d_tl_loan_48 : decode prog_1_method_8_code 48 = .ok (.if_icmp .lt 6, 3) := by decide +kernel
theorem d_tl_loan_51 : decode prog_1_method_8_code 51 = .ok (.bipush (-4), 2) := by decide +kernel
theorem d_tl_loan_53 : decode prog_1_method_8_code 53 = .ok (.ireturn, 1) := by decide +kernel
theorem d_tl_loan_54 : decode prog_1_method_8_code 54 = .ok (.aload_n 0, 1) := by decide +kernel
theorem d_tl_loan_55 : decode prog_1_method_8_code 55 = .ok (.getfield 10, 3) := by decide +kernel
theorem d_tl_loan_58 : decode prog_1_method_8_code 58 = .ok (.getfield 121, 3) := by decide +kernel
theorem d_tl_loan_61 : decode prog_1_method_8_code 61 = .ok (.aload_n 0, 1) := by decide +kernel
theorem d_tl_loan_62 : decode prog_1_method_8_code 62 = .ok (.getfield 10, 3) := by decide +kernel
theorem d_tl_loan_65 : decode prog_1_method_8_code 65 = .ok (.getfield 118, 3) := by decide +kernel
theorem d_tl_loan_68 : decode prog_1_method_8_code 68 = .ok (.aaload, 1) := by decide +kernel
theorem d_tl_loan_69 : decode prog_1_method_8_code 69 = .ok (.astore 5, 2) := by decide +kernel
theorem d_tl_loan_71 : decode prog_1_method_8_code 71 = .ok (.aload 5, 2) := by decide +kernel
theorem d_tl_loan_73 : decode prog_1_method_8_code 73 = .ok (.iload_n 1, 1) := by decide +kernel
theorem d_tl_loan_74 : decode prog_1_method_8_code 74 = .ok (.putfield 125, 3) := by decide +kernel
theorem d_tl_loan_77 : decode prog_1_method_8_code 77 = .ok (.aload 5, 2) := by decide +kernel
theorem d_tl_loan_79 : decode prog_1_method_8_code 79 = .ok (.iload_n 2, 1) := by decide +kernel
theorem d_tl_loan_80 : decode prog_1_method_8_code 80 = .ok (.putfield 130, 3) := by decide +kernel
theorem d_tl_loan_83 : decode prog_1_method_8_code 83 = .ok (.aload 5, 2) := by decide +kernel
theorem d_tl_loan_85 : decode prog_1_method_8_code 85 = .ok (.iload_n 3, 1) := by decide +kernel
theorem d_tl_loan_86 : decode prog_1_method_8_code 86 = .ok (.putfield 133, 3) := by decide +kernel
theorem d_tl_loan_89 : decode prog_1_method_8_code 89 = .ok (.aload 5, 2) := by decide +kernel
theorem d_tl_loan_91 : decode prog_1_method_8_code 91 = .ok (.iload 4, 2) := by decide +kernel
theorem d_tl_loan_93 : decode prog_1_method_8_code 93 = .ok (.putfield 136, 3) := by decide +kernel
theorem d_tl_loan_96 : decode prog_1_method_8_code 96 = .ok (.aload_n 0, 1) := by decide +kernel
theorem d_tl_loan_97 : decode prog_1_method_8_code 97 = .ok (.getfield 10, 3) := by decide +kernel
theorem d_tl_loan_100 : decode prog_1_method_8_code 100 = .ok (.dup, 1) := by decide +kernel
theorem d_tl_loan_101 : decode prog_1_method_8_code 101 = .ok (.getfield 118, 3) := by decide +kernel
theorem d_tl_loan_104 : decode prog_1_method_8_code 104 = .ok (.iconst 1, 1) := by decide +kernel
theorem d_tl_loan_105 : decode prog_1_method_8_code 105 = .ok (.iadd, 1) := by decide +kernel
theorem d_tl_loan_106 : decode prog_1_method_8_code 106 = .ok (.putfield 118, 3) := by decide +kernel
theorem d_tl_loan_109 : decode prog_1_method_8_code 109 = .ok (.aload_n 0, 1) := by decide +kernel
theorem d_tl_loan_110 : decode prog_1_method_8_code 110 = .ok (.getfield 19, 3) := by decide +kernel
theorem d_tl_loan_113 : decode prog_1_method_8_code 113 = .ok (.invokevirtual 138, 3) := by decide +kernel
theorem d_tl_loan_116 : decode prog_1_method_8_code 116 = .ok (.aload_n 0, 1) := by decide +kernel
theorem d_tl_loan_117 : decode prog_1_method_8_code 117 = .ok (.getfield 10, 3) := by decide +kernel
theorem d_tl_loan_120 : decode prog_1_method_8_code 120 = .ok (.getfield 118, 3) := by decide +kernel
theorem d_tl_loan_123 : decode prog_1_method_8_code 123 = .ok (.ireturn, 1) := by decide +kernel
theorem d_tl_back_0 : decode prog_1_method_9_code 0 = .ok (.aload_n 0, 1) := by decide +kernel
theorem d_tl_back_1 : decode prog_1_method_9_code 1 = .ok (.getfield 10, 3) := by decide +kernel
theorem d_tl_back_4 : decode prog_1_method_9_code 4 = .ok (.getfield 118, 3) := by decide +kernel
theorem d_tl_back_7 : decode prog_1_method_9_code 7 = .ok (.ifCond .ne 6, 3) := by decide +kernel
theorem d_tl_back_10 : decode prog_1_method_9_code 10 = .ok (.bipush (-3), 2) := by decide +kernel
theorem d_tl_back_12 : decode prog_1_method_9_code 12 = .ok (.ireturn, 1) := by decide +kernel
theorem d_tl_back_13 : decode prog_1_method_9_code 13 = .ok (.aload_n 0, 1) := by decide +kernel
theorem d_tl_back_14 : decode prog_1_method_9_code 14 = .ok (.getfield 10, 3) := by decide +kernel
theorem d_tl_back_17 : decode prog_1_method_9_code 17 = .ok (.dup, 1) := by decide +kernel
theorem d_tl_back_18 : decode prog_1_method_9_code 18 = .ok (.getfield 118, 3) := by decide +kernel
theorem d_tl_back_21 : decode prog_1_method_9_code 21 = .ok (.iconst 1, 1) := by decide +kernel
theorem d_tl_back_22 : decode prog_1_method_9_code 22 = .ok (.isub, 1) := by decide +kernel
theorem d_tl_back_23 : decode prog_1_method_9_code 23 = .ok (.putfield 118, 3) := by decide +kernel
theorem d_tl_back_26 : decode prog_1_method_9_code 26 = .ok (.aload_n 0, 1) := by decide +kernel
theorem d_tl_back_27 : decode prog_1_method_9_code 27 = .ok (.getfield 19, 3) := by decide +kernel
theorem d_tl_back_30 : decode prog_1_method_9_code 30 = .ok (.invokevirtual 138, 3) := by decide +kernel
theorem d_tl_back_33 : decode prog_1_method_9_code 33 = .ok (.aload_n 0, 1) := by decide +kernel
theorem d_tl_back_34 : decode prog_1_method_9_code 34 = .ok (.getfield 10, 3) := by decide +kernel
theorem d_tl_back_37 : decode prog_1_method_9_code 37 = .ok (.getfield 118, 3) := by decide +kernel
theorem d_tl_back_40 : decode prog_1_method_9_code 40 = .ok (.ireturn, 1) := by decide +kernel
theorem d_tl_read_0 : decode prog_1_method_10_code 0 = .ok (.iload_n 1, 1) := by decide +kernel
theorem d_tl_read_1 : decode prog_1_method_10_code 1 = .ok (.invokestatic 141, 3) := by decide +kernel
theorem d_tl_read_4 : decode prog_1_method_10_code 4 = .ok (.ifCond .ne 6, 3) := by decide +kernel
theorem d_tl_read_7 : decode prog_1_method_10_code 7 = .ok (.bipush (-2), 2) := by decide +kernel
theorem d_tl_read_9 : decode prog_1_method_10_code 9 = .ok (.ireturn, 1) := by decide +kernel
theorem d_tl_read_10 : decode prog_1_method_10_code 10 = .ok (.aload_n 0, 1) := by decide +kernel
theorem d_tl_read_11 : decode prog_1_method_10_code 11 = .ok (.getfield 46, 3) := by decide +kernel
theorem d_tl_read_14 : decode prog_1_method_10_code 14 = .ok (.iload_n 1, 1) := by decide +kernel
theorem d_tl_read_15 : decode prog_1_method_10_code 15 = .ok (.aaload, 1) := by decide +kernel
theorem d_tl_read_16 : decode prog_1_method_10_code 16 = .ok (.astore_n 2, 1) := by decide +kernel
theorem d_tl_read_17 : decode prog_1_method_10_code 17 = .ok (.aload_n 2, 1) := by decide +kernel
theorem d_tl_read_18 : decode prog_1_method_10_code 18 = .ok (.invokevirtual 144, 3) := by decide +kernel
theorem d_tl_read_21 : decode prog_1_method_10_code 21 = .ok (.ifCond .eq 9, 3) := by decide +kernel
theorem d_tl_read_24 : decode prog_1_method_10_code 24 = .ok (.aload_n 0, 1) := by decide +kernel
theorem d_tl_read_25 : decode prog_1_method_10_code 25 = .ok (.iconst 1, 1) := by decide +kernel
theorem d_tl_read_26 : decode prog_1_method_10_code 26 = .ok (.invokevirtual 148, 3) := by decide +kernel
theorem d_tl_read_29 : decode prog_1_method_10_code 29 = .ok (.ireturn, 1) := by decide +kernel
theorem d_tl_read_30 : decode prog_1_method_10_code 30 = .ok (.aload_n 2, 1) := by decide +kernel
theorem d_tl_read_31 : decode prog_1_method_10_code 31 = .ok (.getfield 151, 3) := by decide +kernel
theorem d_tl_read_34 : decode prog_1_method_10_code 34 = .ok (.iconst 4, 1) := by decide +kernel
theorem d_tl_read_35 : decode prog_1_method_10_code 35 = .ok (.idiv, 1) := by decide +kernel
theorem d_tl_read_36 : decode prog_1_method_10_code 36 = .ok (.istore_n 3, 1) := by decide +kernel
theorem d_tl_read_37 : decode prog_1_method_10_code 37 = .ok (.iconst 0, 1) := by decide +kernel
theorem d_tl_read_38 : decode prog_1_method_10_code 38 = .ok (.istore 4, 2) := by decide +kernel
theorem d_tl_read_40 : decode prog_1_method_10_code 40 = .ok (.iload 4, 2) := by decide +kernel
theorem d_tl_read_42 : decode prog_1_method_10_code 42 = .ok (.iload_n 3, 1) := by decide +kernel
theorem d_tl_read_43 : decode prog_1_method_10_code 43 = .ok (.if_icmp .ge 63, 3) := by decide +kernel
theorem d_tl_read_46 : decode prog_1_method_10_code 46 = .ok (.iconst 4, 1) := by decide +kernel
theorem d_tl_read_47 : decode prog_1_method_10_code 47 = .ok (.iload 4, 2) := by decide +kernel
theorem d_tl_read_49 : decode prog_1_method_10_code 49 = .ok (.imul, 1) := by decide +kernel
theorem d_tl_read_50 : decode prog_1_method_10_code 50 = .ok (.istore 5, 2) := by decide +kernel
theorem d_tl_read_52 : decode prog_1_method_10_code 52 = .ok (.aload_n 0, 1) := by decide +kernel
theorem d_tl_read_53 : decode prog_1_method_10_code 53 = .ok (.aload_n 2, 1) := by decide +kernel
theorem d_tl_read_54 : decode prog_1_method_10_code 54 = .ok (.getfield 152, 3) := by decide +kernel
theorem d_tl_read_57 : decode prog_1_method_10_code 57 = .ok (.iload 5, 2) := by decide +kernel
theorem d_tl_read_59 : decode prog_1_method_10_code 59 = .ok (.iaload, 1) := by decide +kernel
theorem d_tl_read_60 : decode prog_1_method_10_code 60 = .ok (.aload_n 2, 1) := by decide +kernel
theorem d_tl_read_61 : decode prog_1_method_10_code 61 = .ok (.getfield 152, 3) := by decide +kernel
theorem d_tl_read_64 : decode prog_1_method_10_code 64 = .ok (.iload 5, 2) := by decide +kernel
theorem d_tl_read_66 : decode prog_1_method_10_code 66 = .ok (.iconst 1, 1) := by decide +kernel
theorem d_tl_read_67 : decode prog_1_method_10_code 67 = .ok (.iadd, 1) := by decide +kernel
theorem d_tl_read_68 : decode prog_1_method_10_code 68 = .ok (.iaload, 1) := by decide +kernel
theorem d_tl_read_69 : decode prog_1_method_10_code 69 = .ok (.aload_n 2, 1) := by decide +kernel
theorem d_tl_read_70 : decode prog_1_method_10_code 70 = .ok (.getfield 152, 3) := by decide +kernel
theorem d_tl_read_73 : decode prog_1_method_10_code 73 = .ok (.iload 5, 2) := by decide +kernel
theorem d_tl_read_75 : decode prog_1_method_10_code 75 = .ok (.iconst 2, 1) := by decide +kernel
theorem d_tl_read_76 : decode prog_1_method_10_code 76 = .ok (.iadd, 1) := by decide +kernel
theorem d_tl_read_77 : decode prog_1_method_10_code 77 = .ok (.iaload, 1) := by decide +kernel
theorem d_tl_read_78 : decode prog_1_method_10_code 78 = .ok (.aload_n 2, 1) := by decide +kernel
theorem d_tl_read_79 : decode prog_1_method_10_code 79 = .ok (.getfield 152, 3) := by decide +kernel
theorem d_tl_read_82 : decode prog_1_method_10_code 82 = .ok (.iload 5, 2) := by decide +kernel
theorem d_tl_read_84 : decode prog_1_method_10_code 84 = .ok (.iconst 3, 1) := by decide +kernel
theorem d_tl_read_85 : decode prog_1_method_10_code 85 = .ok (.iadd, 1) := by decide +kernel
theorem d_tl_read_86 : decode prog_1_method_10_code 86 = .ok (.iaload, 1) := by decide +kernel
theorem d_tl_read_87 : decode prog_1_method_10_code 87 = .ok (.invokevirtual 155, 3) := by decide +kernel
theorem d_tl_read_90 : decode prog_1_method_10_code 90 = .ok (.istore 6, 2) := by decide +kernel
theorem d_tl_read_92 : decode prog_1_method_10_code 92 = .ok (.iload 6, 2) := by decide +kernel
theorem d_tl_read_94 : decode prog_1_method_10_code 94 = .ok (.ifCond .ge 6, 3) := by decide +kernel
theorem d_tl_read_97 : decode prog_1_method_10_code 97 = .ok (.iload 4, 2) := by decide +kernel
theorem d_tl_read_99 : decode prog_1_method_10_code 99 = .ok (.ireturn, 1) := by decide +kernel
theorem d_tl_read_100 : decode prog_1_method_10_code 100 = .ok (.iinc 4 1, 3) := by decide +kernel
theorem d_tl_read_103 : decode prog_1_method_10_code 103 = .ok (.goto (-63), 3) := by decide +kernel
theorem d_tl_read_106 : decode prog_1_method_10_code 106 = .ok (.iload_n 3, 1) := by decide +kernel
theorem d_tl_read_107 : decode prog_1_method_10_code 107 = .ok (.ireturn, 1) := by decide +kernel
theorem d_tl_ear_0 : decode prog_1_method_11_code 0 = .ok (.iload_n 1, 1) := by decide +kernel
theorem d_tl_ear_1 : decode prog_1_method_11_code 1 = .ok (.invokestatic 159, 3) := by decide +kernel
theorem d_tl_ear_4 : decode prog_1_method_11_code 4 = .ok (.ifCond .ne 6, 3) := by decide +kernel
theorem d_tl_ear_7 : decode prog_1_method_11_code 7 = .ok (.bipush (-2), 2) := by decide +kernel
theorem d_tl_ear_9 : decode prog_1_method_11_code 9 = .ok (.ireturn, 1) := by decide +kernel
theorem d_tl_ear_10 : decode prog_1_method_11_code 10 = .ok (.aload_n 0, 1) := by decide +kernel
theorem d_tl_ear_11 : decode prog_1_method_11_code 11 = .ok (.getfield 51, 3) := by decide +kernel
theorem d_tl_ear_14 : decode prog_1_method_11_code 14 = .ok (.istore_n 2, 1) := by decide +kernel
theorem d_tl_ear_15 : decode prog_1_method_11_code 15 = .ok (.aload_n 0, 1) := by decide +kernel
theorem d_tl_ear_16 : decode prog_1_method_11_code 16 = .ok (.iload_n 1, 1) := by decide +kernel
theorem d_tl_ear_17 : decode prog_1_method_11_code 17 = .ok (.putfield 51, 3) := by decide +kernel
theorem d_tl_ear_20 : decode prog_1_method_11_code 20 = .ok (.iload_n 2, 1) := by decide +kernel
theorem d_tl_ear_21 : decode prog_1_method_11_code 21 = .ok (.ireturn, 1) := by decide +kernel
theorem d_tl_notes_0 : decode prog_1_method_12_code 0 = .ok (.iload_n 1, 1) := by decide +kernel
theorem d_tl_notes_1 : decode prog_1_method_12_code 1 = .ok (.invokestatic 115, 3) := by decide +kernel
theorem d_tl_notes_4 : decode prog_1_method_12_code 4 = .ok (.ifCond .eq 21, 3) := by decide +kernel
theorem d_tl_notes_7 : decode prog_1_method_12_code 7 = .ok (.aload_n 0, 1) := by decide +kernel
theorem d_tl_notes_8 : decode prog_1_method_12_code 8 = .ok (.iload_n 2, 1) := by decide +kernel
theorem d_tl_notes_9 : decode prog_1_method_12_code 9 = .ok (.invokevirtual 83, 3) := by decide +kernel
theorem d_tl_notes_12 : decode prog_1_method_12_code 12 = .ok (.ifCond .eq 13, 3) := by decide +kernel
theorem d_tl_notes_15 : decode prog_1_method_12_code 15 = .ok (.iload_n 3, 1) := by decide +kernel
theorem d_tl_notes_16 : decode prog_1_method_12_code 16 = .ok (.iconst (-1), 1) := by decide +kernel
theorem d_tl_notes_17 : decode prog_1_method_12_code 17 = .ok (.bipush 39, 2) := by decide +kernel
theorem d_tl_notes_19 : decode prog_1_method_12_code 19 = .ok (.invokestatic 59, 3) := by decide +kernel
theorem d_tl_notes_22 : decode prog_1_method_12_code 22 = .ok (.ifCond .ne 6, 3) := by decide +kernel
theorem d_tl_notes_25 : decode prog_1_method_12_code 25 = .ok (.bipush (-2), 2) := by decide +kernel
theorem d_tl_notes_27 : decode prog_1_method_12_code 27 = .ok (.ireturn, 1) := by decide +kernel
theorem d_tl_notes_28 : decode prog_1_method_12_code 28 = .ok (.aload_n 0, 1) := by decide +kernel
theorem d_tl_notes_29 : decode prog_1_method_12_code 29 = .ok (.getfield 19, 3) := by decide +kernel
theorem d_tl_notes_32 : decode prog_1_method_12_code 32 = .ok (.aload_n 0, 1) := by decide +kernel
theorem d_tl_notes_33 : decode prog_1_method_12_code 33 = .ok (.getfield 10, 3) := by decide +kernel
theorem d_tl_notes_36 : decode prog_1_method_12_code 36 = .ok (.aload_n 0, 1) := by decide +kernel
theorem d_tl_notes_37 : decode prog_1_method_12_code 37 = .ok (.getfield 51, 3) := by decide +kernel
theorem d_tl_notes_40 : decode prog_1_method_12_code 40 = .ok (.aload_n 0, 1) := by decide +kernel
theorem d_tl_notes_41 : decode prog_1_method_12_code 41 = .ok (.getfield 33, 3) := by decide +kernel
theorem d_tl_notes_44 : decode prog_1_method_12_code 44 = .ok (.invokevirtual 162, 3) := by decide +kernel
theorem d_tl_notes_47 : decode prog_1_method_12_code 47 = .ok (.iload_n 3, 1) := by decide +kernel
theorem d_tl_notes_48 : decode prog_1_method_12_code 48 = .ok (.iconst (-1), 1) := by decide +kernel
theorem d_tl_notes_49 : decode prog_1_method_12_code 49 = .ok (.if_icmp .ne 15, 3) := by decide +kernel
theorem d_tl_notes_52 : decode prog_1_method_12_code 52 = .ok (.aload_n 0, 1) := by decide +kernel
theorem d_tl_notes_53 : decode prog_1_method_12_code 53 = .ok (.getfield 19, 3) := by decide +kernel
theorem d_tl_notes_56 : decode prog_1_method_12_code 56 = .ok (.iload_n 1, 1) := by decide +kernel
theorem d_tl_notes_57 : decode prog_1_method_12_code 57 = .ok (.iload_n 2, 1) := by decide +kernel
theorem d_tl_notes_58 : decode prog_1_method_12_code 58 = .ok (.invokevirtual 166, 3) := by decide +kernel
theorem d_tl_notes_61 : decode prog_1_method_12_code 61 = .ok (.goto 13, 3) := by decide +kernel
theorem d_tl_notes_64 : decode prog_1_method_12_code 64 = .ok (.aload_n 0, 1) := by decide +kernel
theorem d_tl_notes_65 : decode prog_1_method_12_code 65 = .ok (.getfield 19, 3) := by decide +kernel
theorem d_tl_notes_68 : decode prog_1_method_12_code 68 = .ok (.iload_n 1, 1) := by decide +kernel
theorem d_tl_notes_69 : decode prog_1_method_12_code 69 = .ok (.iload_n 2, 1) := by decide +kernel
theorem d_tl_notes_70 : decode prog_1_method_12_code 70 = .ok (.iload_n 3, 1) := by decide +kernel
theorem d_tl_notes_71 : decode prog_1_method_12_code 71 = .ok (.invokevirtual 169, 3) := by decide +kernel
theorem d_tl_notes_74 : decode prog_1_method_12_code 74 = .ok (.ireturn, 1) := by decide +kernel
theorem d_tl_has_0 : decode prog_1_method_13_code 0 = .ok (.iload_n 1, 1) := by decide +kernel
theorem d_tl_has_1 : decode prog_1_method_13_code 1 = .ok (.invokestatic 115, 3) := by decide +kernel
theorem d_tl_has_4 : decode prog_1_method_13_code 4 = .ok (.ifCond .eq 11, 3) := by decide +kernel
theorem d_tl_has_7 : decode prog_1_method_13_code 7 = .ok (.aload_n 0, 1) := by decide +kernel
theorem d_tl_has_8 : decode prog_1_method_13_code 8 = .ok (.iload_n 2, 1) := by decide +kernel
theorem d_tl_has_9 : decode prog_1_method_13_code 9 = .ok (.invokevirtual 83, 3) := by decide +kernel
theorem d_tl_has_12 : decode prog_1_method_13_code 12 = .ok (.ifCond .ne 6, 3) := by decide +kernel
theorem d_tl_has_15 : decode prog_1_method_13_code 15 = .ok (.bipush (-2), 2) := by decide +kernel
theorem d_tl_has_17 : decode prog_1_method_13_code 17 = .ok (.ireturn, 1) := by decide +kernel
theorem d_tl_has_18 : decode prog_1_method_13_code 18 = .ok (.aload_n 0, 1) := by decide +kernel
theorem d_tl_has_19 : decode prog_1_method_13_code 19 = .ok (.getfield 19, 3) := by decide +kernel
theorem d_tl_has_22 : decode prog_1_method_13_code 22 = .ok (.aload_n 0, 1) := by decide +kernel
theorem d_tl_has_23 : decode prog_1_method_13_code 23 = .ok (.getfield 10, 3) := by decide +kernel
theorem d_tl_has_26 : decode prog_1_method_13_code 26 = .ok (.aload_n 0, 1) := by decide +kernel
theorem d_tl_has_27 : decode prog_1_method_13_code 27 = .ok (.getfield 51, 3) := by decide +kernel
theorem d_tl_has_30 : decode prog_1_method_13_code 30 = .ok (.aload_n 0, 1) := by decide +kernel
theorem d_tl_has_31 : decode prog_1_method_13_code 31 = .ok (.getfield 33, 3) := by decide +kernel
theorem d_tl_has_34 : decode prog_1_method_13_code 34 = .ok (.invokevirtual 162, 3) := by decide +kernel
theorem d_tl_has_37 : decode prog_1_method_13_code 37 = .ok (.aload_n 0, 1) := by decide +kernel
theorem d_tl_has_38 : decode prog_1_method_13_code 38 = .ok (.getfield 19, 3) := by decide +kernel
theorem d_tl_has_41 : decode prog_1_method_13_code 41 = .ok (.iload_n 1, 1) := by decide +kernel
theorem d_tl_has_42 : decode prog_1_method_13_code 42 = .ok (.iload_n 2, 1) := by decide +kernel
theorem d_tl_has_43 : decode prog_1_method_13_code 43 = .ok (.invokevirtual 173, 3) := by decide +kernel
theorem d_tl_has_46 : decode prog_1_method_13_code 46 = .ok (.ireturn, 1) := by decide +kernel
theorem d_tl_came_0 : decode prog_1_method_14_code 0 = .ok (.iload_n 1, 1) := by decide +kernel
theorem d_tl_came_1 : decode prog_1_method_14_code 1 = .ok (.iconst 0, 1) := by decide +kernel
theorem d_tl_came_2 : decode prog_1_method_14_code 2 = .ok (.aload_n 0, 1) := by decide +kernel
theorem d_tl_came_3 : decode prog_1_method_14_code 3 = .ok (.getfield 10, 3) := by decide +kernel
theorem d_tl_came_6 : decode prog_1_method_14_code 6 = .ok (.getfield 118, 3) := by decide +kernel
theorem d_tl_came_9 : decode prog_1_method_14_code 9 = .ok (.iconst 1, 1) := by decide +kernel
theorem d_tl_came_10 : decode prog_1_method_14_code 10 = .ok (.isub, 1) := by decide +kernel
theorem d_tl_came_11 : decode prog_1_method_14_code 11 = .ok (.invokestatic 59, 3) := by decide +kernel
theorem d_tl_came_14 : decode prog_1_method_14_code 14 = .ok (.ifCond .eq 12, 3) := by decide +kernel
theorem d_tl_came_17 : decode prog_1_method_14_code 17 = .ok (.iload_n 2, 1) := by decide +kernel
theorem d_tl_came_18 : decode prog_1_method_14_code 18 = .ok (.iconst 0, 1) := by decide +kernel
theorem d_tl_came_19 : decode prog_1_method_14_code 19 = .ok (.iconst 2, 1) := by decide +kernel
theorem d_tl_came_20 : decode prog_1_method_14_code 20 = .ok (.invokestatic 59, 3) := by decide +kernel
theorem d_tl_came_23 : decode prog_1_method_14_code 23 = .ok (.ifCond .ne 7, 3) := by decide +kernel
theorem d_tl_came_26 : decode prog_1_method_14_code 26 = .ok (.sipush (-1002), 3) := by decide +kernel
theorem d_tl_came_29 : decode prog_1_method_14_code 29 = .ok (.ireturn, 1) := by decide +kernel
theorem d_tl_came_30 : decode prog_1_method_14_code 30 = .ok (.aload_n 0, 1) := by decide +kernel
theorem d_tl_came_31 : decode prog_1_method_14_code 31 = .ok (.getfield 19, 3) := by decide +kernel
theorem d_tl_came_34 : decode prog_1_method_14_code 34 = .ok (.aload_n 0, 1) := by decide +kernel
theorem d_tl_came_35 : decode prog_1_method_14_code 35 = .ok (.getfield 10, 3) := by decide +kernel
theorem d_tl_came_38 : decode prog_1_method_14_code 38 = .ok (.aload_n 0, 1) := by decide +kernel
theorem d_tl_came_39 : decode prog_1_method_14_code 39 = .ok (.getfield 51, 3) := by decide +kernel
theorem d_tl_came_42 : decode prog_1_method_14_code 42 = .ok (.aload_n 0, 1) := by decide +kernel
theorem d_tl_came_43 : decode prog_1_method_14_code 43 = .ok (.getfield 33, 3) := by decide +kernel
theorem d_tl_came_46 : decode prog_1_method_14_code 46 = .ok (.invokevirtual 162, 3) := by decide +kernel
theorem d_tl_came_49 : decode prog_1_method_14_code 49 = .ok (.aload_n 0, 1) := by decide +kernel
theorem d_tl_came_50 : decode prog_1_method_14_code 50 = .ok (.getfield 10, 3) := by decide +kernel
theorem d_tl_came_53 : decode prog_1_method_14_code 53 = .ok (.getfield 121, 3) := by decide +kernel
theorem d_tl_came_56 : decode prog_1_method_14_code 56 = .ok (.iload_n 1, 1) := by decide +kernel
theorem d_tl_came_57 : decode prog_1_method_14_code 57 = .ok (.aaload, 1) := by decide +kernel
theorem d_tl_came_58 : decode prog_1_method_14_code 58 = .ok (.astore_n 3, 1) := by decide +kernel
theorem d_tl_came_59 : decode prog_1_method_14_code 59 = .ok (.iload_n 2, 1) := by decide +kernel
theorem d_tl_came_60 : decode prog_1_method_14_code 60 = .ok (.iconst 2, 1) := by decide +kernel
theorem d_tl_came_61 : decode prog_1_method_14_code 61 = .ok (.if_icmp .ne 8, 3) := by decide +kernel
theorem d_tl_came_64 : decode prog_1_method_14_code 64 = .ok (.aload_n 3, 1) := by decide +kernel
theorem d_tl_came_65 : decode prog_1_method_14_code 65 = .ok (.getfield 176, 3) := by decide +kernel
theorem d_tl_came_68 : decode prog_1_method_14_code 68 = .ok (.ireturn, 1) := by decide +kernel
theorem d_tl_came_69 : decode prog_1_method_14_code 69 = .ok (.iload_n 2, 1) := by decide +kernel
theorem d_tl_came_70 : decode prog_1_method_14_code 70 = .ok (.ifCond .ne 10, 3) := by decide +kernel
theorem d_tl_came_73 : decode prog_1_method_14_code 73 = .ok (.aload_n 3, 1) := by decide +kernel
theorem d_tl_came_74 : decode prog_1_method_14_code 74 = .ok (.getfield 179, 3) := by decide +kernel
theorem d_tl_came_77 : decode prog_1_method_14_code 77 = .ok (.goto 7, 3) := by decide +kernel
theorem d_tl_came_80 : decode prog_1_method_14_code 80 = .ok (.aload_n 3, 1) := by decide +kernel
theorem d_tl_came_81 : decode prog_1_method_14_code 81 = .ok (.getfield 183, 3) := by decide +kernel
theorem d_tl_came_84 : decode prog_1_method_14_code 84 = .ok (.istore 4, 2) := by decide +kernel
theorem d_tl_came_86 : decode prog_1_method_14_code 86 = .ok (.iload 4, 2) := by decide +kernel
theorem d_tl_came_88 : decode prog_1_method_14_code 88 = .ok (.ifCond .eq 7, 3) := by decide +kernel
theorem d_tl_came_91 : decode prog_1_method_14_code 91 = .ok (.iconst 1, 1) := by decide +kernel
theorem d_tl_came_92 : decode prog_1_method_14_code 92 = .ok (.goto 4, 3) := by decide +kernel
theorem d_tl_came_95 : decode prog_1_method_14_code 95 = .ok (.iconst 0, 1) := by decide +kernel
theorem d_tl_came_96 : decode prog_1_method_14_code 96 = .ok (.ireturn, 1) := by decide +kernel
theorem d_tl_interest_0 : decode prog_1_method_15_code 0 = .ok (.iload_n 1, 1) := by decide +kernel
theorem d_tl_interest_1 : decode prog_1_method_15_code 1 = .ok (.invokestatic 115, 3) := by decide +kernel
theorem d_tl_interest_4 : decode prog_1_method_15_code 4 = .ok (.ifCond .eq 15, 3) := by decide +kernel
theorem d_tl_interest_7 : decode prog_1_method_15_code 7 = .ok (.aload_n 0, 1) := by decide +kernel
theorem d_tl_interest_8 : decode prog_1_method_15_code 8 = .ok (.aload_n 0, 1) := by decide +kernel
theorem d_tl_interest_9 : decode prog_1_method_15_code 9 = .ok (.getfield 51, 3) := by decide +kernel
theorem d_tl_interest_12 : decode prog_1_method_15_code 12 = .ok (.iload_n 1, 1) := by decide +kernel
theorem d_tl_interest_13 : decode prog_1_method_15_code 13 = .ok (.invokevirtual 186, 3) := by decide +kernel
theorem d_tl_interest_16 : decode prog_1_method_15_code 16 = .ok (.goto 6, 3) := by decide +kernel
theorem d_tl_interest_19 : decode prog_1_method_15_code 19 = .ok (.sipush (-1002), 3) := by decide +kernel
theorem d_tl_interest_22 : decode prog_1_method_15_code 22 = .ok (.ireturn, 1) := by decide +kernel
theorem d_tl_home_0 : decode prog_1_method_16_code 0 = .ok (.iload_n 1, 1) := by decide +kernel
theorem d_tl_home_1 : decode prog_1_method_16_code 1 = .ok (.invokestatic 115, 3) := by decide +kernel
theorem d_tl_home_4 : decode prog_1_method_16_code 4 = .ok (.ifCond .ne 6, 3) := by decide +kernel
theorem d_tl_home_7 : decode prog_1_method_16_code 7 = .ok (.bipush (-2), 2) := by decide +kernel
theorem d_tl_home_9 : decode prog_1_method_16_code 9 = .ok (.ireturn, 1) := by decide +kernel
theorem d_tl_home_10 : decode prog_1_method_16_code 10 = .ok (.aload_n 0, 1) := by decide +kernel
theorem d_tl_home_11 : decode prog_1_method_16_code 11 = .ok (.getfield 19, 3) := by decide +kernel
theorem d_tl_home_14 : decode prog_1_method_16_code 14 = .ok (.aload_n 0, 1) := by decide +kernel
theorem d_tl_home_15 : decode prog_1_method_16_code 15 = .ok (.getfield 10, 3) := by decide +kernel
theorem d_tl_home_18 : decode prog_1_method_16_code 18 = .ok (.aload_n 0, 1) := by decide +kernel
theorem d_tl_home_19 : decode prog_1_method_16_code 19 = .ok (.getfield 51, 3) := by decide +kernel
theorem d_tl_home_22 : decode prog_1_method_16_code 22 = .ok (.aload_n 0, 1) := by decide +kernel
theorem d_tl_home_23 : decode prog_1_method_16_code 23 = .ok (.getfield 33, 3) := by decide +kernel
theorem d_tl_home_26 : decode prog_1_method_16_code 26 = .ok (.invokevirtual 162, 3) := by decide +kernel
theorem d_tl_home_29 : decode prog_1_method_16_code 29 = .ok (.iload_n 1, 1) := by decide +kernel
theorem d_tl_home_30 : decode prog_1_method_16_code 30 = .ok (.istore_n 2, 1) := by decide +kernel
theorem d_tl_home_31 : decode prog_1_method_16_code 31 = .ok (.iload_n 2, 1) := by decide +kernel
theorem d_tl_home_32 : decode prog_1_method_16_code 32 = .ok (.bipush 40, 2) := by decide +kernel
theorem d_tl_home_34 : decode prog_1_method_16_code 34 = .ok (.if_icmp .ge 26, 3) := by decide +kernel
theorem d_tl_home_37 : decode prog_1_method_16_code 37 = .ok (.aload_n 0, 1) := by decide +kernel
theorem d_tl_home_38 : decode prog_1_method_16_code 38 = .ok (.getfield 19, 3) := by decide +kernel
theorem d_tl_home_41 : decode prog_1_method_16_code 41 = .ok (.aload_n 0, 1) := by decide +kernel
theorem d_tl_home_42 : decode prog_1_method_16_code 42 = .ok (.getfield 10, 3) := by decide +kernel
theorem d_tl_home_45 : decode prog_1_method_16_code 45 = .ok (.iload_n 2, 1) := by decide +kernel
theorem d_tl_home_46 : decode prog_1_method_16_code 46 = .ok (.invokevirtual 189, 3) := by decide +kernel
theorem d_tl_home_49 : decode prog_1_method_16_code 49 = .ok (.ifCond .eq 5, 3) := by decide +kernel
theorem d_tl_home_52 : decode prog_1_method_16_code 52 = .ok (.iload_n 2, 1) := by decide +kernel
theorem d_tl_home_53 : decode prog_1_method_16_code 53 = .ok (.ireturn, 1) := by decide +kernel
theorem d_tl_home_54 : decode prog_1_method_16_code 54 = .ok (.iinc 2 1, 3) := by decide +kernel
theorem d_tl_home_57 : decode prog_1_method_16_code 57 = .ok (.goto (-26), 3) := by decide +kernel
theorem d_tl_home_60 : decode prog_1_method_16_code 60 = .ok (.iconst (-1), 1) := by decide +kernel
theorem d_tl_home_61 : decode prog_1_method_16_code 61 = .ok (.ireturn, 1) := by decide +kernel
theorem d_tl_lend_0 : decode prog_1_method_17_code 0 = .ok (.aload_n 0, 1) := by decide +kernel
theorem d_tl_lend_1 : decode prog_1_method_17_code 1 = .ok (.iload_n 1, 1) := by decide +kernel
theorem d_tl_lend_2 : decode prog_1_method_17_code 2 = .ok (.invokevirtual 83, 3) := by decide +kernel
theorem d_tl_lend_5 : decode prog_1_method_17_code 5 = .ok (.ifCond .eq 22, 3) := by decide +kernel
theorem d_tl_lend_8 : decode prog_1_method_17_code 8 = .ok (.iload_n 2, 1) := by decide +kernel
theorem d_tl_lend_9 : decode prog_1_method_17_code 9 = .ok (.iconst 0, 1) := by decide +kernel
theorem d_tl_lend_10 : decode prog_1_method_17_code 10 = .ok (.bipush 127, 2) := by decide +kernel
theorem d_tl_lend_12 : decode prog_1_method_17_code 12 = .ok (.invokestatic 59, 3) := by decide +kernel
theorem d_tl_lend_15 : decode prog_1_method_17_code 15 = .ok (.ifCond .eq 12, 3) := by decide +kernel
theorem d_tl_lend_18 : decode prog_1_method_17_code 18 = .ok (.iload_n 3, 1) := by decide +kernel
theorem d_tl_lend_19 : decode prog_1_method_17_code 19 = .ok (.iconst (-1), 1) := by decide +kernel
theorem d_tl_lend_20 : decode prog_1_method_17_code 20 = .ok (.iconst 2, 1) := by decide +kernel
theorem d_tl_lend_21 : decode prog_1_method_17_code 21 = .ok (.invokestatic 59, 3) := by decide +kernel
theorem d_tl_lend_24 : decode prog_1_method_17_code 24 = .ok (.ifCond .ne 6, 3) := by decide +kernel
theorem d_tl_lend_27 : decode prog_1_method_17_code 27 = .ok (.bipush (-2), 2) := by decide +kernel
theorem d_tl_lend_29 : decode prog_1_method_17_code 29 = .ok (.ireturn, 1) := by decide +kernel
theorem d_tl_lend_30 : decode prog_1_method_17_code 30 = .ok (.aload_n 0, 1) := by decide +kernel
theorem d_tl_lend_31 : decode prog_1_method_17_code 31 = .ok (.getfield 26, 3) := by decide +kernel
theorem d_tl_lend_34 : decode prog_1_method_17_code 34 = .ok (.aload_n 0, 1) := by decide +kernel
theorem d_tl_lend_35 : decode prog_1_method_17_code 35 = .ok (.getfield 10, 3) := by decide +kernel
theorem d_tl_lend_38 : decode prog_1_method_17_code 38 = .ok (.getfield 86, 3) := by decide +kernel
theorem d_tl_lend_41 : decode prog_1_method_17_code 41 = .ok (.iload_n 1, 1) := by decide +kernel
theorem d_tl_lend_42 : decode prog_1_method_17_code 42 = .ok (.aaload, 1) := by decide +kernel
theorem d_tl_lend_43 : decode prog_1_method_17_code 43 = .ok (.invokevirtual 193, 3) := by decide +kernel
theorem d_tl_lend_46 : decode prog_1_method_17_code 46 = .ok (.iconst 0, 1) := by decide +kernel
theorem d_tl_lend_47 : decode prog_1_method_17_code 47 = .ok (.istore 4, 2) := by decide +kernel
theorem d_tl_lend_49 : decode prog_1_method_17_code 49 = .ok (.iload 4, 2) := by decide +kernel
theorem d_tl_lend_51 : decode prog_1_method_17_code 51 = .ok (.iconst 3, 1) := by decide +kernel
theorem d_tl_lend_52 : decode prog_1_method_17_code 52 = .ok (.if_icmp .gt 91, 3) := by decide +kernel
theorem d_tl_lend_55 : decode prog_1_method_17_code 55 = .ok (.aload_n 0, 1) := by decide +kernel
theorem d_tl_lend_56 : decode prog_1_method_17_code 56 = .ok (.getfield 26, 3) := by decide +kernel
theorem d_tl_lend_59 : decode prog_1_method_17_code 59 = .ok (.aload_n 0, 1) := by decide +kernel
theorem d_tl_lend_60 : decode prog_1_method_17_code 60 = .ok (.getfield 10, 3) := by decide +kernel
theorem d_tl_lend_63 : decode prog_1_method_17_code 63 = .ok (.iload 4, 2) := by decide +kernel
theorem d_tl_lend_65 : decode prog_1_method_17_code 65 = .ok (.invokevirtual 197, 3) := by decide +kernel
theorem d_tl_lend_68 : decode prog_1_method_17_code 68 = .ok (.istore 5, 2) := by decide +kernel
theorem d_tl_lend_70 : decode prog_1_method_17_code 70 = .ok (.iconst 0, 1) := by decide +kernel
theorem d_tl_lend_71 : decode prog_1_method_17_code 71 = .ok (.istore 6, 2) := by decide +kernel
theorem d_tl_lend_73 : decode prog_1_method_17_code 73 = .ok (.iload 6, 2) := by decide +kernel
theorem d_tl_lend_75 : decode prog_1_method_17_code 75 = .ok (.iload 5, 2) := by decide +kernel
theorem d_tl_lend_77 : decode prog_1_method_17_code 77 = .ok (.if_icmp .ge 60, 3) := by decide +kernel
theorem d_tl_lend_80 : decode prog_1_method_17_code 80 = .ok (.aload_n 0, 1) := by decide +kernel
theorem d_tl_lend_81 : decode prog_1_method_17_code 81 = .ok (.getfield 26, 3) := by decide +kernel
theorem d_tl_lend_84 : decode prog_1_method_17_code 84 = .ok (.aload_n 0, 1) := by decide +kernel
theorem d_tl_lend_85 : decode prog_1_method_17_code 85 = .ok (.getfield 10, 3) := by decide +kernel
theorem d_tl_lend_88 : decode prog_1_method_17_code 88 = .ok (.iload 4, 2) := by decide +kernel
theorem d_tl_lend_90 : decode prog_1_method_17_code 90 = .ok (.iload 6, 2) := by decide +kernel
theorem d_tl_lend_92 : decode prog_1_method_17_code 92 = .ok (.invokevirtual 201, 3) := by decide +kernel
theorem d_tl_lend_95 : decode prog_1_method_17_code 95 = .ok (.invokevirtual 205, 3) := by decide +kernel
theorem d_tl_lend_98 : decode prog_1_method_17_code 98 = .ok (.iload_n 2, 1) := by decide +kernel
theorem d_tl_lend_99 : decode prog_1_method_17_code 99 = .ok (.iand, 1) := by decide +kernel
theorem d_tl_lend_100 : decode prog_1_method_17_code 100 = .ok (.iload_n 2, 1) := by decide +kernel
theorem d_tl_lend_101 : decode prog_1_method_17_code 101 = .ok (.if_icmp .ne 30, 3) := by decide +kernel
theorem d_tl_lend_104 : decode prog_1_method_17_code 104 = .ok (.iload_n 3, 1) := by decide +kernel
theorem d_tl_lend_105 : decode prog_1_method_17_code 105 = .ok (.iconst (-1), 1) := by decide +kernel
theorem d_tl_lend_106 : decode prog_1_method_17_code 106 = .ok (.if_icmp .ne 8, 3) := by decide +kernel
theorem d_tl_lend_109 : decode prog_1_method_17_code 109 = .ok (.iload 4, 2) := by decide +kernel
theorem d_tl_lend_111 : decode prog_1_method_17_code 111 = .ok (.goto 19, 3) := by decide +kernel
theorem d_tl_lend_114 : decode prog_1_method_17_code 114 = .ok (.aload_n 0, 1) := by decide +kernel
theorem d_tl_lend_115 : decode prog_1_method_17_code 115 = .ok (.getfield 26, 3) := by decide +kernel
theorem d_tl_lend_118 : decode prog_1_method_17_code 118 = .ok (.aload_n 0, 1) := by decide +kernel
theorem d_tl_lend_119 : decode prog_1_method_17_code 119 = .ok (.getfield 10, 3) := by decide +kernel
theorem d_tl_lend_122 : decode prog_1_method_17_code 122 = .ok (.iload 4, 2) := by decide +kernel
theorem d_tl_lend_124 : decode prog_1_method_17_code 124 = .ok (.iload 6, 2) := by decide +kernel
theorem d_tl_lend_126 : decode prog_1_method_17_code 126 = .ok (.iload_n 3, 1) := by decide +kernel
theorem d_tl_lend_127 : decode prog_1_method_17_code 127 = .ok (.invokevirtual 209, 3) := by decide +kernel
theorem d_tl_lend_130 : decode prog_1_method_17_code 130 = .ok (.ireturn, 1) := by decide +kernel
theorem d_tl_lend_131 : decode prog_1_method_17_code 131 = .ok (.iinc 6 1, 3) := by decide +kernel
theorem d_tl_lend_134 : decode prog_1_method_17_code 134 = .ok (.goto (-61), 3) := by decide +kernel
theorem d_tl_lend_137 : decode prog_1_method_17_code 137 = .ok (.iinc 4 1, 3) := by decide +kernel
theorem d_tl_lend_140 : decode prog_1_method_17_code 140 = .ok (.goto (-91), 3) := by decide +kernel
theorem d_tl_lend_143 : decode prog_1_method_17_code 143 = .ok (.iconst (-1), 1) := by decide +kernel
theorem d_tl_lend_144 : decode prog_1_method_17_code 144 = .ok (.ireturn, 1) := by decide +kernel
theorem d_tl_longest_0 : decode prog_1_method_18_code 0 = .ok (.aload_n 0, 1) := by decide +kernel
theorem d_tl_longest_1 : decode prog_1_method_18_code 1 = .ok (.iload_n 1, 1) := by decide +kernel
theorem d_tl_longest_2 : decode prog_1_method_18_code 2 = .ok (.invokevirtual 83, 3) := by decide +kernel
theorem d_tl_longest_5 : decode prog_1_method_18_code 5 = .ok (.ifCond .eq 23, 3) := by decide +kernel
theorem d_tl_longest_8 : decode prog_1_method_18_code 8 = .ok (.iload_n 2, 1) := by decide +kernel
theorem d_tl_longest_9 : decode prog_1_method_18_code 9 = .ok (.iconst 1, 1) := by decide +kernel
theorem d_tl_longest_10 : decode prog_1_method_18_code 10 = .ok (.iconst 3, 1) := by decide +kernel
theorem d_tl_longest_11 : decode prog_1_method_18_code 11 = .ok (.invokestatic 59, 3) := by decide +kernel
theorem d_tl_longest_14 : decode prog_1_method_18_code 14 = .ok (.ifCond .eq 14, 3) := by decide +kernel
theorem d_tl_longest_17 : decode prog_1_method_18_code 17 = .ok (.iload_n 3, 1) := by decide +kernel
theorem d_tl_longest_18 : decode prog_1_method_18_code 18 = .ok (.iconst (-1), 1) := by decide +kernel
theorem d_tl_longest_19 : decode prog_1_method_18_code 19 = .ok (.iload_n 2, 1) := by decide +kernel
theorem d_tl_longest_20 : decode prog_1_method_18_code 20 = .ok (.iconst 1, 1) := by decide +kernel
theorem d_tl_longest_21 : decode prog_1_method_18_code 21 = .ok (.isub, 1) := by decide +kernel
theorem d_tl_longest_22 : decode prog_1_method_18_code 22 = .ok (.invokestatic 59, 3) := by decide +kernel
theorem d_tl_longest_25 : decode prog_1_method_18_code 25 = .ok (.ifCond .ne 6, 3) := by decide +kernel
theorem d_tl_longest_28 : decode prog_1_method_18_code 28 = .ok (.bipush (-2), 2) := by decide +kernel
theorem d_tl_longest_30 : decode prog_1_method_18_code 30 = .ok (.ireturn, 1) := by decide +kernel
theorem d_tl_longest_31 : decode prog_1_method_18_code 31 = .ok (.aload_n 0, 1) := by decide +kernel
theorem d_tl_longest_32 : decode prog_1_method_18_code 32 = .ok (.getfield 26, 3) := by decide +kernel
theorem d_tl_longest_35 : decode prog_1_method_18_code 35 = .ok (.aload_n 0, 1) := by decide +kernel
theorem d_tl_longest_36 : decode prog_1_method_18_code 36 = .ok (.getfield 10, 3) := by decide +kernel
theorem d_tl_longest_39 : decode prog_1_method_18_code 39 = .ok (.getfield 86, 3) := by decide +kernel
theorem d_tl_longest_42 : decode prog_1_method_18_code 42 = .ok (.iload_n 1, 1) := by decide +kernel
theorem d_tl_longest_43 : decode prog_1_method_18_code 43 = .ok (.aaload, 1) := by decide +kernel
theorem d_tl_longest_44 : decode prog_1_method_18_code 44 = .ok (.invokevirtual 193, 3) := by decide +kernel
theorem d_tl_longest_47 : decode prog_1_method_18_code 47 = .ok (.aload_n 0, 1) := by decide +kernel
theorem d_tl_longest_48 : decode prog_1_method_18_code 48 = .ok (.getfield 26, 3) := by decide +kernel
theorem d_tl_longest_51 : decode prog_1_method_18_code 51 = .ok (.aload_n 0, 1) := by decide +kernel
theorem d_tl_longest_52 : decode prog_1_method_18_code 52 = .ok (.getfield 10, 3) := by decide +kernel
theorem d_tl_longest_55 : decode prog_1_method_18_code 55 = .ok (.iload_n 2, 1) := by decide +kernel
theorem d_tl_longest_56 : decode prog_1_method_18_code 56 = .ok (.invokevirtual 197, 3) := by decide +kernel
theorem d_tl_longest_59 : decode prog_1_method_18_code 59 = .ok (.istore 4, 2) := by decide +kernel
theorem d_tl_longest_61 : decode prog_1_method_18_code 61 = .ok (.iconst (-1), 1) := by decide +kernel
theorem d_tl_longest_62 : decode prog_1_method_18_code 62 = .ok (.istore 5, 2) := by decide +kernel
theorem d_tl_longest_64 : decode prog_1_method_18_code 64 = .ok (.iconst (-1), 1) := by decide +kernel
theorem d_tl_longest_65 : decode prog_1_method_18_code 65 = .ok (.istore 6, 2) := by decide +kernel
theorem d_tl_longest_67 : decode prog_1_method_18_code 67 = .ok (.iconst 0, 1) := by decide +kernel
theorem d_tl_longest_68 : decode prog_1_method_18_code 68 = .ok (.istore 7, 2) := by decide +kernel
theorem d_tl_longest_70 : decode prog_1_method_18_code 70 = .ok (.iload 7, 2) := by decide +kernel
theorem d_tl_longest_72 : decode prog_1_method_18_code 72 = .ok (.iload 4, 2) := by decide +kernel
theorem d_tl_longest_74 : decode prog_1_method_18_code 74 = .ok (.if_icmp .ge 43, 3) := by decide +kernel
theorem d_tl_longest_77 : decode prog_1_method_18_code 77 = .ok (.aload_n 0, 1) := by decide +kernel
theorem d_tl_longest_78 : decode prog_1_method_18_code 78 = .ok (.getfield 26, 3) := by decide +kernel
theorem d_tl_longest_81 : decode prog_1_method_18_code 81 = .ok (.aload_n 0, 1) := by decide +kernel
theorem d_tl_longest_82 : decode prog_1_method_18_code 82 = .ok (.getfield 10, 3) := by decide +kernel
theorem d_tl_longest_85 : decode prog_1_method_18_code 85 = .ok (.iload_n 2, 1) := by decide +kernel
theorem d_tl_longest_86 : decode prog_1_method_18_code 86 = .ok (.iload 7, 2) := by decide +kernel
theorem d_tl_longest_88 : decode prog_1_method_18_code 88 = .ok (.invokevirtual 201, 3) := by decide +kernel
theorem d_tl_longest_91 : decode prog_1_method_18_code 91 = .ok (.getfield 90, 3) := by decide +kernel
theorem d_tl_longest_94 : decode prog_1_method_18_code 94 = .ok (.istore 8, 2) := by decide +kernel
theorem d_tl_longest_96 : decode prog_1_method_18_code 96 = .ok (.iload 8, 2) := by decide +kernel
theorem d_tl_longest_98 : decode prog_1_method_18_code 98 = .ok (.iload 5, 2) := by decide +kernel
theorem d_tl_longest_100 : decode prog_1_method_18_code 100 = .ok (.if_icmp .le 11, 3) := by decide +kernel
theorem d_tl_longest_103 : decode prog_1_method_18_code 103 = .ok (.iload 8, 2) := by decide +kernel
theorem d_tl_longest_105 : decode prog_1_method_18_code 105 = .ok (.istore 5, 2) := by decide +kernel
theorem d_tl_longest_107 : decode prog_1_method_18_code 107 = .ok (.iload 7, 2) := by decide +kernel
theorem d_tl_longest_109 : decode prog_1_method_18_code 109 = .ok (.istore 6, 2) := by decide +kernel
theorem d_tl_longest_111 : decode prog_1_method_18_code 111 = .ok (.iinc 7 1, 3) := by decide +kernel
theorem d_tl_longest_114 : decode prog_1_method_18_code 114 = .ok (.goto (-44), 3) := by decide +kernel
theorem d_tl_longest_117 : decode prog_1_method_18_code 117 = .ok (.iload_n 3, 1) := by decide +kernel
theorem d_tl_longest_118 : decode prog_1_method_18_code 118 = .ok (.iconst (-1), 1) := by decide +kernel
theorem d_tl_longest_119 : decode prog_1_method_18_code 119 = .ok (.if_icmp .eq 9, 3) := by decide +kernel
theorem d_tl_longest_122 : decode prog_1_method_18_code 122 = .ok (.iload 6, 2) := by decide +kernel
theorem d_tl_longest_124 : decode prog_1_method_18_code 124 = .ok (.iconst (-1), 1) := by decide +kernel
theorem d_tl_longest_125 : decode prog_1_method_18_code 125 = .ok (.if_icmp .ne 8, 3) := by decide +kernel
theorem d_tl_longest_128 : decode prog_1_method_18_code 128 = .ok (.iload 5, 2) := by decide +kernel
theorem d_tl_longest_130 : decode prog_1_method_18_code 130 = .ok (.goto 18, 3) := by decide +kernel
theorem d_tl_longest_133 : decode prog_1_method_18_code 133 = .ok (.aload_n 0, 1) := by decide +kernel
theorem d_tl_longest_134 : decode prog_1_method_18_code 134 = .ok (.getfield 26, 3) := by decide +kernel
theorem d_tl_longest_137 : decode prog_1_method_18_code 137 = .ok (.aload_n 0, 1) := by decide +kernel
theorem d_tl_longest_138 : decode prog_1_method_18_code 138 = .ok (.getfield 10, 3) := by decide +kernel
theorem d_tl_longest_141 : decode prog_1_method_18_code 141 = .ok (.iload_n 2, 1) := by decide +kernel
theorem d_tl_longest_142 : decode prog_1_method_18_code 142 = .ok (.iload 6, 2) := by decide +kernel
theorem d_tl_longest_144 : decode prog_1_method_18_code 144 = .ok (.iload_n 3, 1) := by decide +kernel
theorem d_tl_longest_145 : decode prog_1_method_18_code 145 = .ok (.invokevirtual 209, 3) := by decide +kernel
theorem d_tl_longest_148 : decode prog_1_method_18_code 148 = .ok (.ireturn, 1) := by decide +kernel
theorem d_tl_who_0 : decode prog_1_method_19_code 0 = .ok (.aload_n 0, 1) := by decide +kernel
theorem d_tl_who_1 : decode prog_1_method_19_code 1 = .ok (.iload_n 1, 1) := by decide +kernel
theorem d_tl_who_2 : decode prog_1_method_19_code 2 = .ok (.invokevirtual 83, 3) := by decide +kernel
theorem d_tl_who_5 : decode prog_1_method_19_code 5 = .ok (.ifCond .eq 20, 3) := by decide +kernel
theorem d_tl_who_8 : decode prog_1_method_19_code 8 = .ok (.aload_n 0, 1) := by decide +kernel
theorem d_tl_who_9 : decode prog_1_method_19_code 9 = .ok (.iload_n 2, 1) := by decide +kernel
theorem d_tl_who_10 : decode prog_1_method_19_code 10 = .ok (.invokevirtual 83, 3) := by decide +kernel
theorem d_tl_who_13 : decode prog_1_method_19_code 13 = .ok (.ifCond .eq 12, 3) := by decide +kernel
theorem d_tl_who_16 : decode prog_1_method_19_code 16 = .ok (.iload_n 3, 1) := by decide +kernel
theorem d_tl_who_17 : decode prog_1_method_19_code 17 = .ok (.iconst 0, 1) := by decide +kernel
theorem d_tl_who_18 : decode prog_1_method_19_code 18 = .ok (.iconst 1, 1) := by decide +kernel
theorem d_tl_who_19 : decode prog_1_method_19_code 19 = .ok (.invokestatic 59, 3) := by decide +kernel
theorem d_tl_who_22 : decode prog_1_method_19_code 22 = .ok (.ifCond .ne 6, 3) := by decide +kernel
theorem d_tl_who_25 : decode prog_1_method_19_code 25 = .ok (.bipush (-2), 2) := by decide +kernel
theorem d_tl_who_27 : decode prog_1_method_19_code 27 = .ok (.ireturn, 1) := by decide +kernel
theorem d_tl_who_28 : decode prog_1_method_19_code 28 = .ok (.aload_n 0, 1) := by decide +kernel
theorem d_tl_who_29 : decode prog_1_method_19_code 29 = .ok (.getfield 26, 3) := by decide +kernel
theorem d_tl_who_32 : decode prog_1_method_19_code 32 = .ok (.aload_n 0, 1) := by decide +kernel
theorem d_tl_who_33 : decode prog_1_method_19_code 33 = .ok (.getfield 10, 3) := by decide +kernel
theorem d_tl_who_36 : decode prog_1_method_19_code 36 = .ok (.getfield 86, 3) := by decide +kernel
theorem d_tl_who_39 : decode prog_1_method_19_code 39 = .ok (.iload_n 1, 1) := by decide +kernel
theorem d_tl_who_40 : decode prog_1_method_19_code 40 = .ok (.aaload, 1) := by decide +kernel
theorem d_tl_who_41 : decode prog_1_method_19_code 41 = .ok (.invokevirtual 193, 3) := by decide +kernel
theorem d_tl_who_44 : decode prog_1_method_19_code 44 = .ok (.aload_n 0, 1) := by decide +kernel
theorem d_tl_who_45 : decode prog_1_method_19_code 45 = .ok (.getfield 10, 3) := by decide +kernel
theorem d_tl_who_48 : decode prog_1_method_19_code 48 = .ok (.getfield 86, 3) := by decide +kernel
theorem d_tl_who_51 : decode prog_1_method_19_code 51 = .ok (.iload_n 2, 1) := by decide +kernel
theorem d_tl_who_52 : decode prog_1_method_19_code 52 = .ok (.aaload, 1) := by decide +kernel
theorem d_tl_who_53 : decode prog_1_method_19_code 53 = .ok (.astore 4, 2) := by decide +kernel
theorem d_tl_who_55 : decode prog_1_method_19_code 55 = .ok (.iconst 0, 1) := by decide +kernel
theorem d_tl_who_56 : decode prog_1_method_19_code 56 = .ok (.istore 5, 2) := by decide +kernel
theorem d_tl_who_58 : decode prog_1_method_19_code 58 = .ok (.iconst (-1), 1) := by decide +kernel
theorem d_tl_who_59 : decode prog_1_method_19_code 59 = .ok (.istore 6, 2) := by decide +kernel
theorem d_tl_who_61 : decode prog_1_method_19_code 61 = .ok (.iconst 0, 1) := by decide +kernel
theorem d_tl_who_62 : decode prog_1_method_19_code 62 = .ok (.istore 7, 2) := by decide +kernel
theorem d_tl_who_64 : decode prog_1_method_19_code 64 = .ok (.iload 7, 2) := by decide +kernel
theorem d_tl_who_66 : decode prog_1_method_19_code 66 = .ok (.iconst 3, 1) := by decide +kernel
theorem d_tl_who_67 : decode prog_1_method_19_code 67 = .ok (.if_icmp .gt 93, 3) := by decide +kernel
theorem d_tl_who_70 : decode prog_1_method_19_code 70 = .ok (.aload_n 0, 1) := by decide +kernel
theorem d_tl_who_71 : decode prog_1_method_19_code 71 = .ok (.getfield 26, 3) := by decide +kernel
theorem d_tl_who_74 : decode prog_1_method_19_code 74 = .ok (.aload_n 0, 1) := by decide +kernel
theorem d_tl_who_75 : decode prog_1_method_19_code 75 = .ok (.getfield 10, 3) := by decide +kernel
theorem d_tl_who_78 : decode prog_1_method_19_code 78 = .ok (.iload 7, 2) := by decide +kernel
theorem d_tl_who_80 : decode prog_1_method_19_code 80 = .ok (.invokevirtual 197, 3) := by decide +kernel
theorem d_tl_who_83 : decode prog_1_method_19_code 83 = .ok (.istore 8, 2) := by decide +kernel
theorem d_tl_who_85 : decode prog_1_method_19_code 85 = .ok (.iconst 0, 1) := by decide +kernel
theorem d_tl_who_86 : decode prog_1_method_19_code 86 = .ok (.istore 9, 2) := by decide +kernel
theorem d_tl_who_88 : decode prog_1_method_19_code 88 = .ok (.iload 9, 2) := by decide +kernel
theorem d_tl_who_90 : decode prog_1_method_19_code 90 = .ok (.iload 8, 2) := by decide +kernel
theorem d_tl_who_92 : decode prog_1_method_19_code 92 = .ok (.if_icmp .ge 62, 3) := by decide +kernel
theorem d_tl_who_95 : decode prog_1_method_19_code 95 = .ok (.aload_n 0, 1) := by decide +kernel
theorem d_tl_who_96 : decode prog_1_method_19_code 96 = .ok (.getfield 26, 3) := by decide +kernel
theorem d_tl_who_99 : decode prog_1_method_19_code 99 = .ok (.aload_n 0, 1) := by decide +kernel
theorem d_tl_who_100 : decode prog_1_method_19_code 100 = .ok (.getfield 10, 3) := by decide +kernel
theorem d_tl_who_103 : decode prog_1_method_19_code 103 = .ok (.iload 7, 2) := by decide +kernel
theorem d_tl_who_105 : decode prog_1_method_19_code 105 = .ok (.iload 9, 2) := by decide +kernel
theorem d_tl_who_107 : decode prog_1_method_19_code 107 = .ok (.invokevirtual 201, 3) := by decide +kernel
theorem d_tl_who_110 : decode prog_1_method_19_code 110 = .ok (.aload 4, 2) := by decide +kernel
theorem d_tl_who_112 : decode prog_1_method_19_code 112 = .ok (.invokevirtual 213, 3) := by decide +kernel
theorem d_tl_who_115 : decode prog_1_method_19_code 115 = .ok (.ifCond .eq 33, 3) := by decide +kernel
theorem d_tl_who_118 : decode prog_1_method_19_code 118 = .ok (.iload 5, 2) := by decide +kernel
theorem d_tl_who_120 : decode prog_1_method_19_code 120 = .ok (.ifCond .ne 21, 3) := by decide +kernel
theorem d_tl_who_123 : decode prog_1_method_19_code 123 = .ok (.aload_n 0, 1) := by decide +kernel
theorem d_tl_who_124 : decode prog_1_method_19_code 124 = .ok (.getfield 26, 3) := by decide +kernel
theorem d_tl_who_127 : decode prog_1_method_19_code 127 = .ok (.aload_n 0, 1) := by decide +kernel
theorem d_tl_who_128 : decode prog_1_method_19_code 128 = .ok (.getfield 10, 3) := by decide +kernel
theorem d_tl_who_131 : decode prog_1_method_19_code 131 = .ok (.iload 7, 2) := by decide +kernel
theorem d_tl_who_133 : decode prog_1_method_19_code 133 = .ok (.iload 9, 2) := by decide +kernel
theorem d_tl_who_135 : decode prog_1_method_19_code 135 = .ok (.invokevirtual 217, 3) := by decide +kernel
theorem d_tl_who_138 : decode prog_1_method_19_code 138 = .ok (.goto 5, 3) := by decide +kernel
theorem d_tl_who_141 : decode prog_1_method_19_code 141 = .ok (.iload 6, 2) := by decide +kernel
theorem d_tl_who_143 : decode prog_1_method_19_code 143 = .ok (.istore 6, 2) := by decide +kernel
theorem d_tl_who_145 : decode prog_1_method_19_code 145 = .ok (.iinc 5 1, 3) := by decide +kernel
theorem d_tl_who_148 : decode prog_1_method_19_code 148 = .ok (.iinc 9 1, 3) := by decide +kernel
theorem d_tl_who_151 : decode prog_1_method_19_code 151 = .ok (.goto (-63), 3) := by decide +kernel
theorem d_tl_who_154 : decode prog_1_method_19_code 154 = .ok (.iinc 7 1, 3) := by decide +kernel
theorem d_tl_who_157 : decode prog_1_method_19_code 157 = .ok (.goto (-93), 3) := by decide +kernel
theorem d_tl_who_160 : decode prog_1_method_19_code 160 = .ok (.iload_n 3, 1) := by decide +kernel
theorem d_tl_who_161 : decode prog_1_method_19_code 161 = .ok (.ifCond .ne 8, 3) := by decide +kernel
theorem d_tl_who_164 : decode prog_1_method_19_code 164 = .ok (.iload 5, 2) := by decide +kernel
theorem d_tl_who_166 : decode prog_1_method_19_code 166 = .ok (.goto 5, 3) := by decide +kernel
theorem d_tl_who_169 : decode prog_1_method_19_code 169 = .ok (.iload 6, 2) := by decide +kernel
theorem d_tl_who_171 : decode prog_1_method_19_code 171 = .ok (.ireturn, 1) := by decide +kernel
theorem d_tl_common_0 : decode prog_1_method_20_code 0 = .ok (.aload_n 0, 1) := by decide +kernel
theorem d_tl_common_1 : decode prog_1_method_20_code 1 = .ok (.iload_n 1, 1) := by decide +kernel
theorem d_tl_common_2 : decode prog_1_method_20_code 2 = .ok (.invokevirtual 83, 3) := by decide +kernel
theorem d_tl_common_5 : decode prog_1_method_20_code 5 = .ok (.ifCond .eq 39, 3) := by decide +kernel
theorem d_tl_common_8 : decode prog_1_method_20_code 8 = .ok (.aload_n 0, 1) := by decide +kernel
theorem d_tl_common_9 : decode prog_1_method_20_code 9 = .ok (.iload_n 2, 1) := by decide +kernel
theorem d_tl_common_10 : decode prog_1_method_20_code 10 = .ok (.invokevirtual 83, 3) := by decide +kernel
theorem d_tl_common_13 : decode prog_1_method_20_code 13 = .ok (.ifCond .eq 31, 3) := by decide +kernel
theorem d_tl_common_16 : decode prog_1_method_20_code 16 = .ok (.aload_n 0, 1) := by decide +kernel
theorem d_tl_common_17 : decode prog_1_method_20_code 17 = .ok (.getfield 33, 3) := by decide +kernel
theorem d_tl_common_20 : decode prog_1_method_20_code 20 = .ok (.aload_n 0, 1) := by decide +kernel
theorem d_tl_common_21 : decode prog_1_method_20_code 21 = .ok (.getfield 10, 3) := by decide +kernel
theorem d_tl_common_24 : decode prog_1_method_20_code 24 = .ok (.getfield 86, 3) := by decide +kernel
theorem d_tl_common_27 : decode prog_1_method_20_code 27 = .ok (.iload_n 1, 1) := by decide +kernel
theorem d_tl_common_28 : decode prog_1_method_20_code 28 = .ok (.aaload, 1) := by decide +kernel
theorem d_tl_common_29 : decode prog_1_method_20_code 29 = .ok (.aload_n 0, 1) := by decide +kernel
theorem d_tl_common_30 : decode prog_1_method_20_code 30 = .ok (.getfield 10, 3) := by decide +kernel
theorem d_tl_common_33 : decode prog_1_method_20_code 33 = .ok (.getfield 86, 3) := by decide +kernel
theorem d_tl_common_36 : decode prog_1_method_20_code 36 = .ok (.iload_n 2, 1) := by decide +kernel
theorem d_tl_common_37 : decode prog_1_method_20_code 37 = .ok (.aaload, 1) := by decide +kernel
theorem d_tl_common_38 : decode prog_1_method_20_code 38 = .ok (.invokevirtual 221, 3) := by decide +kernel
theorem d_tl_common_41 : decode prog_1_method_20_code 41 = .ok (.goto 5, 3) := by decide +kernel
theorem d_tl_common_44 : decode prog_1_method_20_code 44 = .ok (.bipush (-2), 2) := by decide +kernel
theorem d_tl_common_46 : decode prog_1_method_20_code 46 = .ok (.ireturn, 1) := by decide +kernel
