theorem d_CM_init_0 : decode b_CM_init 0 = .ok (.aload_n 0, 1) := by decide +kernel
theorem d_CM_init_1 : decode b_CM_init 1 = .ok (.invokespecial 3, 3) := by decide +kernel
theorem d_CM_init_4 : decode b_CM_init 4 = .ok (.aload_n 0, 1) := by decide +kernel
theorem d_CM_init_5 : decode b_CM_init 5 = .ok (.new 9, 3) := by decide +kernel
theorem d_CM_init_8 : decode b_CM_init 8 = .ok (.dup, 1) := by decide +kernel
theorem d_CM_init_9 : decode b_CM_init 9 = .ok (.invokespecial 11, 3) := by decide +kernel
theorem d_CM_init_12 : decode b_CM_init 12 = .ok (.putfield 12, 3) := by decide +kernel
theorem d_CM_init_15 : decode b_CM_init 15 = .ok (.aload_n 0, 1) := by decide +kernel
theorem d_CM_init_16 : decode b_CM_init 16 = .ok (.new 16, 3) := by decide +kernel
theorem d_CM_init_19 : decode b_CM_init 19 = .ok (.dup, 1) := by decide +kernel
theorem d_CM_init_20 : decode b_CM_init 20 = .ok (.aload_n 0, 1) := by decide +kernel
theorem d_CM_init_21 : decode b_CM_init 21 = .ok (.getfield 12, 3) := by decide +kernel
theorem d_CM_init_24 : decode b_CM_init 24 = .ok (.invokespecial 18, 3) := by decide +kernel
theorem d_CM_init_27 : decode b_CM_init 27 = .ok (.putfield 21, 3) := by decide +kernel
theorem d_CM_init_30 : decode b_CM_init 30 = .ok (.aload_n 0, 1) := by decide +kernel
theorem d_CM_init_31 : decode b_CM_init 31 = .ok (.new 25, 3) := by decide +kernel
theorem d_CM_init_34 : decode b_CM_init 34 = .ok (.dup, 1) := by decide +kernel
theorem d_CM_init_35 : decode b_CM_init 35 = .ok (.aload_n 0, 1) := by decide +kernel
theorem d_CM_init_36 : decode b_CM_init 36 = .ok (.getfield 12, 3) := by decide +kernel
theorem d_CM_init_39 : decode b_CM_init 39 = .ok (.invokespecial 27, 3) := by decide +kernel
theorem d_CM_init_42 : decode b_CM_init 42 = .ok (.putfield 28, 3) := by decide +kernel
theorem d_CM_init_45 : decode b_CM_init 45 = .ok (.aload_n 0, 1) := by decide +kernel
theorem d_CM_init_46 : decode b_CM_init 46 = .ok (.iconst 0, 1) := by decide +kernel
theorem d_CM_init_47 : decode b_CM_init 47 = .ok (.putfield 32, 3) := by decide +kernel
theorem d_CM_init_50 : decode b_CM_init 50 = .ok (.return_, 1) := by decide +kernel
theorem d_CM_add_0 : decode b_CM_add 0 = .ok (.iload_n 1, 1) := by decide +kernel
theorem d_CM_add_1 : decode b_CM_add 1 = .ok (.iload_n 2, 1) := by decide +kernel
theorem d_CM_add_2 : decode b_CM_add 2 = .ok (.iload_n 3, 1) := by decide +kernel
theorem d_CM_add_3 : decode b_CM_add 3 = .ok (.iload 5, 2) := by decide +kernel
theorem d_CM_add_5 : decode b_CM_add 5 = .ok (.invokestatic 36, 3) := by decide +kernel
theorem d_CM_add_8 : decode b_CM_add 8 = .ok (.ifCond .ne 13, 3) := by decide +kernel
theorem d_CM_add_11 : decode b_CM_add 11 = .ok (.new 40, 3) := by decide +kernel
theorem d_CM_add_14 : decode b_CM_add 14 = .ok (.dup, 1) := by decide +kernel
theorem d_CM_add_15 : decode b_CM_add 15 = .ok (.ldc 42, 2) := by decide +kernel
theorem d_CM_add_17 : decode b_CM_add 17 = .ok (.invokespecial 44, 3) := by decide +kernel
theorem d_CM_add_20 : decode b_CM_add 20 = .ok (.athrow, 1) := by decide +kernel
theorem d_CM_add_21 : decode b_CM_add 21 = .ok (.aload_n 0, 1) := by decide +kernel
theorem d_CM_add_22 : decode b_CM_add 22 = .ok (.getfield 12, 3) := by decide +kernel
theorem d_CM_add_25 : decode b_CM_add 25 = .ok (.invokevirtual 47, 3) := by decide +kernel
theorem d_CM_add_28 : decode b_CM_add 28 = .ok (.bipush 24, 2) := by decide +kernel
theorem d_CM_add_30 : decode b_CM_add 30 = .ok (.if_icmp .lt 13, 3) := by decide +kernel
theorem d_CM_add_33 : decode b_CM_add 33 = .ok (.new 51, 3) := by decide +kernel
theorem d_CM_add_36 : decode b_CM_add 36 = .ok (.dup, 1) := by decide +kernel
theorem d_CM_add_37 : decode b_CM_add 37 = .ok (.ldc 53, 2) := by decide +kernel
theorem d_CM_add_39 : decode b_CM_add 39 = .ok (.invokespecial 55, 3) := by decide +kernel
theorem d_CM_add_42 : decode b_CM_add 42 = .ok (.athrow, 1) := by decide +kernel
theorem d_CM_add_43 : decode b_CM_add 43 = .ok (.aload_n 0, 1) := by decide +kernel
theorem d_CM_add_44 : decode b_CM_add 44 = .ok (.getfield 12, 3) := by decide +kernel
theorem d_CM_add_47 : decode b_CM_add 47 = .ok (.invokevirtual 56, 3) := by decide +kernel
theorem d_CM_add_50 : decode b_CM_add 50 = .ok (.istore 6, 2) := by decide +kernel
theorem d_CM_add_52 : decode b_CM_add 52 = .ok (.aload_n 0, 1) := by decide +kernel
theorem d_CM_add_53 : decode b_CM_add 53 = .ok (.getfield 12, 3) := by decide +kernel
theorem d_CM_add_56 : decode b_CM_add 56 = .ok (.iload 6, 2) := by decide +kernel
theorem d_CM_add_58 : decode b_CM_add 58 = .ok (.iload_n 1, 1) := by decide +kernel
theorem d_CM_add_59 : decode b_CM_add 59 = .ok (.iload_n 2, 1) := by decide +kernel
theorem d_CM_add_60 : decode b_CM_add 60 = .ok (.iload_n 3, 1) := by decide +kernel
theorem d_CM_add_61 : decode b_CM_add 61 = .ok (.iload 4, 2) := by decide +kernel
theorem d_CM_add_63 : decode b_CM_add 63 = .ok (.iload 5, 2) := by decide +kernel
theorem d_CM_add_65 : decode b_CM_add 65 = .ok (.invokevirtual 59, 3) := by decide +kernel
theorem d_CM_add_68 : decode b_CM_add 68 = .ok (.aload_n 0, 1) := by decide +kernel
theorem d_CM_add_69 : decode b_CM_add 69 = .ok (.iconst 0, 1) := by decide +kernel
theorem d_CM_add_70 : decode b_CM_add 70 = .ok (.putfield 32, 3) := by decide +kernel
theorem d_CM_add_73 : decode b_CM_add 73 = .ok (.iload 6, 2) := by decide +kernel
theorem d_CM_add_75 : decode b_CM_add 75 = .ok (.ireturn, 1) := by decide +kernel
theorem d_CM_put_0 : decode b_CM_put 0 = .ok (.iload_n 2, 1) := by decide +kernel
theorem d_CM_put_1 : decode b_CM_put 1 = .ok (.iload_n 3, 1) := by decide +kernel
theorem d_CM_put_2 : decode b_CM_put 2 = .ok (.iload 4, 2) := by decide +kernel
theorem d_CM_put_4 : decode b_CM_put 4 = .ok (.iload 6, 2) := by decide +kernel
theorem d_CM_put_6 : decode b_CM_put 6 = .ok (.invokestatic 36, 3) := by decide +kernel
theorem d_CM_put_9 : decode b_CM_put 9 = .ok (.ifCond .ne 13, 3) := by decide +kernel
theorem d_CM_put_12 : decode b_CM_put 12 = .ok (.new 40, 3) := by decide +kernel
theorem d_CM_put_15 : decode b_CM_put 15 = .ok (.dup, 1) := by decide +kernel
theorem d_CM_put_16 : decode b_CM_put 16 = .ok (.ldc 42, 2) := by decide +kernel
theorem d_CM_put_18 : decode b_CM_put 18 = .ok (.invokespecial 44, 3) := by decide +kernel
theorem d_CM_put_21 : decode b_CM_put 21 = .ok (.athrow, 1) := by decide +kernel
theorem d_CM_put_22 : decode b_CM_put 22 = .ok (.iload_n 1, 1) := by decide +kernel
theorem d_CM_put_23 : decode b_CM_put 23 = .ok (.ifCond .lt 14, 3) := by decide +kernel
theorem d_CM_put_26 : decode b_CM_put 26 = .ok (.iload_n 1, 1) := by decide +kernel
theorem d_CM_put_27 : decode b_CM_put 27 = .ok (.aload_n 0, 1) := by decide +kernel
theorem d_CM_put_28 : decode b_CM_put 28 = .ok (.getfield 12, 3) := by decide +kernel
theorem d_CM_put_31 : decode b_CM_put 31 = .ok (.invokevirtual 47, 3) := by decide +kernel
theorem d_CM_put_34 : decode b_CM_put 34 = .ok (.if_icmp .lt 13, 3) := by decide +kernel
theorem d_CM_put_37 : decode b_CM_put 37 = .ok (.new 63, 3) := by decide +kernel
theorem d_CM_put_40 : decode b_CM_put 40 = .ok (.dup, 1) := by decide +kernel
theorem d_CM_put_41 : decode b_CM_put 41 = .ok (.ldc 65, 2) := by decide +kernel
theorem d_CM_put_43 : decode b_CM_put 43 = .ok (.invokespecial 67, 3) := by decide +kernel
theorem d_CM_put_46 : decode b_CM_put 46 = .ok (.athrow, 1) := by decide +kernel
theorem d_CM_put_47 : decode b_CM_put 47 = .ok (.aload_n 0, 1) := by decide +kernel
theorem d_CM_put_48 : decode b_CM_put 48 = .ok (.getfield 12, 3) := by decide +kernel
theorem d_CM_put_51 : decode b_CM_put 51 = .ok (.iload_n 1, 1) := by decide +kernel
theorem d_CM_put_52 : decode b_CM_put 52 = .ok (.iload_n 2, 1) := by decide +kernel
theorem d_CM_put_53 : decode b_CM_put 53 = .ok (.iload_n 3, 1) := by decide +kernel
theorem d_CM_put_54 : decode b_CM_put 54 = .ok (.iload 4, 2) := by decide +kernel
theorem d_CM_put_56 : decode b_CM_put 56 = .ok (.iload 5, 2) := by decide +kernel
theorem d_CM_put_58 : decode b_CM_put 58 = .ok (.iload 6, 2) := by decide +kernel
theorem d_CM_put_60 : decode b_CM_put 60 = .ok (.invokevirtual 59, 3) := by decide +kernel
theorem d_CM_put_63 : decode b_CM_put 63 = .ok (.aload_n 0, 1) := by decide +kernel
theorem d_CM_put_64 : decode b_CM_put 64 = .ok (.iconst 0, 1) := by decide +kernel
theorem d_CM_put_65 : decode b_CM_put 65 = .ok (.putfield 32, 3) := by decide +kernel
theorem d_CM_put_68 : decode b_CM_put 68 = .ok (.return_, 1) := by decide +kernel
theorem d_CM_cut_0 : decode b_CM_cut 0 = .ok (.iload_n 1, 1) := by decide +kernel
theorem d_CM_cut_1 : decode b_CM_cut 1 = .ok (.ifCond .lt 14, 3) := by decide +kernel
theorem d_CM_cut_4 : decode b_CM_cut 4 = .ok (.iload_n 1, 1) := by decide +kernel
theorem d_CM_cut_5 : decode b_CM_cut 5 = .ok (.aload_n 0, 1) := by decide +kernel
theorem d_CM_cut_6 : decode b_CM_cut 6 = .ok (.getfield 12, 3) := by decide +kernel
theorem d_CM_cut_9 : decode b_CM_cut 9 = .ok (.invokevirtual 47, 3) := by decide +kernel
theorem d_CM_cut_12 : decode b_CM_cut 12 = .ok (.if_icmp .le 13, 3) := by decide +kernel
theorem d_CM_cut_15 : decode b_CM_cut 15 = .ok (.new 40, 3) := by decide +kernel
theorem d_CM_cut_18 : decode b_CM_cut 18 = .ok (.dup, 1) := by decide +kernel
theorem d_CM_cut_19 : decode b_CM_cut 19 = .ok (.ldc 68, 2) := by decide +kernel
theorem d_CM_cut_21 : decode b_CM_cut 21 = .ok (.invokespecial 44, 3) := by decide +kernel
theorem d_CM_cut_24 : decode b_CM_cut 24 = .ok (.athrow, 1) := by decide +kernel
theorem d_CM_cut_25 : decode b_CM_cut 25 = .ok (.aload_n 0, 1) := by decide +kernel
theorem d_CM_cut_26 : decode b_CM_cut 26 = .ok (.getfield 12, 3) := by decide +kernel
theorem d_CM_cut_29 : decode b_CM_cut 29 = .ok (.iload_n 1, 1) := by decide +kernel
theorem d_CM_cut_30 : decode b_CM_cut 30 = .ok (.invokevirtual 70, 3) := by decide +kernel
theorem d_CM_cut_33 : decode b_CM_cut 33 = .ok (.aload_n 0, 1) := by decide +kernel
theorem d_CM_cut_34 : decode b_CM_cut 34 = .ok (.iconst 0, 1) := by decide +kernel
theorem d_CM_cut_35 : decode b_CM_cut 35 = .ok (.putfield 32, 3) := by decide +kernel
theorem d_CM_cut_38 : decode b_CM_cut 38 = .ok (.return_, 1) := by decide +kernel
theorem d_CM_check_0 : decode b_CM_check 0 = .ok (.aload_n 0, 1) := by decide +kernel
theorem d_CM_check_1 : decode b_CM_check 1 = .ok (.getfield 21, 3) := by decide +kernel
theorem d_CM_check_4 : decode b_CM_check 4 = .ok (.invokevirtual 74, 3) := by decide +kernel
theorem d_CM_check_7 : decode b_CM_check 7 = .ok (.istore_n 1, 1) := by decide +kernel
theorem d_CM_check_8 : decode b_CM_check 8 = .ok (.aload_n 0, 1) := by decide +kernel
theorem d_CM_check_9 : decode b_CM_check 9 = .ok (.iload_n 1, 1) := by decide +kernel
theorem d_CM_check_10 : decode b_CM_check 10 = .ok (.ifCond .ne 7, 3) := by decide +kernel
theorem d_CM_check_13 : decode b_CM_check 13 = .ok (.iconst 1, 1) := by decide +kernel
theorem d_CM_check_14 : decode b_CM_check 14 = .ok (.goto 4, 3) := by decide +kernel
theorem d_CM_check_17 : decode b_CM_check 17 = .ok (.iconst 0, 1) := by decide +kernel
theorem d_CM_check_18 : decode b_CM_check 18 = .ok (.putfield 32, 3) := by decide +kernel
theorem d_CM_check_21 : decode b_CM_check 21 = .ok (.iload_n 1, 1) := by decide +kernel
theorem d_CM_check_22 : decode b_CM_check 22 = .ok (.iconst 1, 1) := by decide +kernel
theorem d_CM_check_23 : decode b_CM_check 23 = .ok (.if_icmp .ne 13, 3) := by decide +kernel
theorem d_CM_check_26 : decode b_CM_check 26 = .ok (.new 40, 3) := by decide +kernel
theorem d_CM_check_29 : decode b_CM_check 29 = .ok (.dup, 1) := by decide +kernel
theorem d_CM_check_30 : decode b_CM_check 30 = .ok (.ldc 77, 2) := by decide +kernel
theorem d_CM_check_32 : decode b_CM_check 32 = .ok (.invokespecial 44, 3) := by decide +kernel
theorem d_CM_check_35 : decode b_CM_check 35 = .ok (.athrow, 1) := by decide +kernel
theorem d_CM_check_36 : decode b_CM_check 36 = .ok (.iload_n 1, 1) := by decide +kernel
theorem d_CM_check_37 : decode b_CM_check 37 = .ok (.iconst 2, 1) := by decide +kernel
theorem d_CM_check_38 : decode b_CM_check 38 = .ok (.if_icmp .ne 13, 3) := by decide +kernel
theorem d_CM_check_41 : decode b_CM_check 41 = .ok (.new 79, 3) := by decide +kernel
theorem d_CM_check_44 : decode b_CM_check 44 = .ok (.dup, 1) := by decide +kernel
theorem d_CM_check_45 : decode b_CM_check 45 = .ok (.ldc 81, 2) := by decide +kernel
theorem d_CM_check_47 : decode b_CM_check 47 = .ok (.invokespecial 83, 3) := by decide +kernel
theorem d_CM_check_50 : decode b_CM_check 50 = .ok (.athrow, 1) := by decide +kernel
theorem d_CM_check_51 : decode b_CM_check 51 = .ok (.aload_n 0, 1) := by decide +kernel
theorem d_CM_check_52 : decode b_CM_check 52 = .ok (.getfield 21, 3) := by decide +kernel
theorem d_CM_check_55 : decode b_CM_check 55 = .ok (.invokevirtual 84, 3) := by decide +kernel
theorem d_CM_check_58 : decode b_CM_check 58 = .ok (.ireturn, 1) := by decide +kernel
theorem d_CM_run_0 : decode b_CM_run 0 = .ok (.aload_n 0, 1) := by decide +kernel
theorem d_CM_run_1 : decode b_CM_run 1 = .ok (.getfield 32, 3) := by decide +kernel
theorem d_CM_run_4 : decode b_CM_run 4 = .ok (.ifCond .ne 13, 3) := by decide +kernel
theorem d_CM_run_7 : decode b_CM_run 7 = .ok (.new 51, 3) := by decide +kernel
theorem d_CM_run_10 : decode b_CM_run 10 = .ok (.dup, 1) := by decide +kernel
theorem d_CM_run_11 : decode b_CM_run 11 = .ok (.ldc 87, 2) := by decide +kernel
theorem d_CM_run_13 : decode b_CM_run 13 = .ok (.invokespecial 55, 3) := by decide +kernel
theorem d_CM_run_16 : decode b_CM_run 16 = .ok (.athrow, 1) := by decide +kernel
theorem d_CM_run_17 : decode b_CM_run 17 = .ok (.aload_n 0, 1) := by decide +kernel
theorem d_CM_run_18 : decode b_CM_run 18 = .ok (.getfield 28, 3) := by decide +kernel
theorem d_CM_run_21 : decode b_CM_run 21 = .ok (.lload_n 1, 1) := by decide +kernel
theorem d_CM_run_22 : decode b_CM_run 22 = .ok (.invokevirtual 89, 3) := by decide +kernel
theorem d_CM_run_25 : decode b_CM_run 25 = .ok (.lreturn, 1) := by decide +kernel
theorem d_CM_row_0 : decode b_CM_row 0 = .ok (.iload_n 1, 1) := by decide +kernel
theorem d_CM_row_1 : decode b_CM_row 1 = .ok (.iload_n 2, 1) := by decide +kernel
theorem d_CM_row_2 : decode b_CM_row 2 = .ok (.invokestatic 93, 3) := by decide +kernel
theorem d_CM_row_5 : decode b_CM_row 5 = .ok (.ifCond .ne 13, 3) := by decide +kernel
theorem d_CM_row_8 : decode b_CM_row 8 = .ok (.new 40, 3) := by decide +kernel
theorem d_CM_row_11 : decode b_CM_row 11 = .ok (.dup, 1) := by decide +kernel
theorem d_CM_row_12 : decode b_CM_row 12 = .ok (.ldc 97, 2) := by decide +kernel
theorem d_CM_row_14 : decode b_CM_row 14 = .ok (.invokespecial 44, 3) := by decide +kernel
theorem d_CM_row_17 : decode b_CM_row 17 = .ok (.athrow, 1) := by decide +kernel
theorem d_CM_row_18 : decode b_CM_row 18 = .ok (.aload_n 0, 1) := by decide +kernel
theorem d_CM_row_19 : decode b_CM_row 19 = .ok (.getfield 28, 3) := by decide +kernel
theorem d_CM_row_22 : decode b_CM_row 22 = .ok (.iload_n 1, 1) := by decide +kernel
theorem d_CM_row_23 : decode b_CM_row 23 = .ok (.iload_n 2, 1) := by decide +kernel
theorem d_CM_row_24 : decode b_CM_row 24 = .ok (.invokevirtual 99, 3) := by decide +kernel
theorem d_CM_row_27 : decode b_CM_row 27 = .ok (.lreturn, 1) := by decide +kernel
theorem d_CM_fill_0 : decode b_CM_fill 0 = .ok (.iload_n 1, 1) := by decide +kernel
theorem d_CM_fill_1 : decode b_CM_fill 1 = .ok (.iload_n 2, 1) := by decide +kernel
theorem d_CM_fill_2 : decode b_CM_fill 2 = .ok (.invokestatic 93, 3) := by decide +kernel
theorem d_CM_fill_5 : decode b_CM_fill 5 = .ok (.ifCond .ne 13, 3) := by decide +kernel
theorem d_CM_fill_8 : decode b_CM_fill 8 = .ok (.new 40, 3) := by decide +kernel
theorem d_CM_fill_11 : decode b_CM_fill 11 = .ok (.dup, 1) := by decide +kernel
theorem d_CM_fill_12 : decode b_CM_fill 12 = .ok (.ldc 97, 2) := by decide +kernel
theorem d_CM_fill_14 : decode b_CM_fill 14 = .ok (.invokespecial 44, 3) := by decide +kernel
theorem d_CM_fill_17 : decode b_CM_fill 17 = .ok (.athrow, 1) := by decide +kernel
theorem d_CM_fill_18 : decode b_CM_fill 18 = .ok (.aload_n 0, 1) := by decide +kernel
theorem d_CM_fill_19 : decode b_CM_fill 19 = .ok (.getfield 28, 3) := by decide +kernel
theorem d_CM_fill_22 : decode b_CM_fill 22 = .ok (.iload_n 1, 1) := by decide +kernel
theorem d_CM_fill_23 : decode b_CM_fill 23 = .ok (.iload_n 2, 1) := by decide +kernel
theorem d_CM_fill_24 : decode b_CM_fill 24 = .ok (.lload_n 3, 1) := by decide +kernel
theorem d_CM_fill_25 : decode b_CM_fill 25 = .ok (.invokevirtual 103, 3) := by decide +kernel
theorem d_CM_fill_28 : decode b_CM_fill 28 = .ok (.return_, 1) := by decide +kernel
theorem d_CM_outcome_0 : decode b_CM_outcome 0 = .ok (.aload_n 0, 1) := by decide +kernel
theorem d_CM_outcome_1 : decode b_CM_outcome 1 = .ok (.getfield 32, 3) := by decide +kernel
theorem d_CM_outcome_4 : decode b_CM_outcome 4 = .ok (.ifCond .ne 13, 3) := by decide +kernel
theorem d_CM_outcome_7 : decode b_CM_outcome 7 = .ok (.new 51, 3) := by decide +kernel
theorem d_CM_outcome_10 : decode b_CM_outcome 10 = .ok (.dup, 1) := by decide +kernel
theorem d_CM_outcome_11 : decode b_CM_outcome 11 = .ok (.ldc 87, 2) := by decide +kernel
theorem d_CM_outcome_13 : decode b_CM_outcome 13 = .ok (.invokespecial 55, 3) := by decide +kernel
theorem d_CM_outcome_16 : decode b_CM_outcome 16 = .ok (.athrow, 1) := by decide +kernel
theorem d_CM_outcome_17 : decode b_CM_outcome 17 = .ok (.iload_n 1, 1) := by decide +kernel
theorem d_CM_outcome_18 : decode b_CM_outcome 18 = .ok (.ifCond .eq 13, 3) := by decide +kernel
theorem d_CM_outcome_21 : decode b_CM_outcome 21 = .ok (.aload_n 0, 1) := by decide +kernel
theorem d_CM_outcome_22 : decode b_CM_outcome 22 = .ok (.getfield 21, 3) := by decide +kernel
theorem d_CM_outcome_25 : decode b_CM_outcome 25 = .ok (.invokevirtual 107, 3) := by decide +kernel
theorem d_CM_outcome_28 : decode b_CM_outcome 28 = .ok (.goto 10, 3) := by decide +kernel
theorem d_CM_outcome_31 : decode b_CM_outcome 31 = .ok (.aload_n 0, 1) := by decide +kernel
theorem d_CM_outcome_32 : decode b_CM_outcome 32 = .ok (.getfield 21, 3) := by decide +kernel
theorem d_CM_outcome_35 : decode b_CM_outcome 35 = .ok (.invokevirtual 111, 3) := by decide +kernel
theorem d_CM_outcome_38 : decode b_CM_outcome 38 = .ok (.lreturn, 1) := by decide +kernel
theorem d_CM_count_0 : decode b_CM_count 0 = .ok (.iload_n 1, 1) := by decide +kernel
theorem d_CM_count_1 : decode b_CM_count 1 = .ok (.tableswitch 104 0 6 #[43, 51, 64, 72, 80, 88, 96], 43) := by decide +kernel
theorem d_CM_count_44 : decode b_CM_count 44 = .ok (.aload_n 0, 1) := by decide +kernel
theorem d_CM_count_45 : decode b_CM_count 45 = .ok (.getfield 12, 3) := by decide +kernel
theorem d_CM_count_48 : decode b_CM_count 48 = .ok (.invokevirtual 47, 3) := by decide +kernel
theorem d_CM_count_51 : decode b_CM_count 51 = .ok (.ireturn, 1) := by decide +kernel
theorem d_CM_count_52 : decode b_CM_count 52 = .ok (.aload_n 0, 1) := by decide +kernel
theorem d_CM_count_53 : decode b_CM_count 53 = .ok (.getfield 32, 3) := by decide +kernel
theorem d_CM_count_56 : decode b_CM_count 56 = .ok (.ifCond .eq 7, 3) := by decide +kernel
theorem d_CM_count_59 : decode b_CM_count 59 = .ok (.iconst 1, 1) := by decide +kernel
theorem d_CM_count_60 : decode b_CM_count 60 = .ok (.goto 4, 3) := by decide +kernel
theorem d_CM_count_63 : decode b_CM_count 63 = .ok (.iconst 0, 1) := by decide +kernel
theorem d_CM_count_64 : decode b_CM_count 64 = .ok (.ireturn, 1) := by decide +kernel
theorem d_CM_count_65 : decode b_CM_count 65 = .ok (.aload_n 0, 1) := by decide +kernel
theorem d_CM_count_66 : decode b_CM_count 66 = .ok (.getfield 21, 3) := by decide +kernel
theorem d_CM_count_69 : decode b_CM_count 69 = .ok (.invokevirtual 114, 3) := by decide +kernel
theorem d_CM_count_72 : decode b_CM_count 72 = .ok (.ireturn, 1) := by decide +kernel
theorem d_CM_count_73 : decode b_CM_count 73 = .ok (.aload_n 0, 1) := by decide +kernel
theorem d_CM_count_74 : decode b_CM_count 74 = .ok (.getfield 21, 3) := by decide +kernel
theorem d_CM_count_77 : decode b_CM_count 77 = .ok (.invokevirtual 117, 3) := by decide +kernel
theorem d_CM_count_80 : decode b_CM_count 80 = .ok (.ireturn, 1) := by decide +kernel
theorem d_CM_count_81 : decode b_CM_count 81 = .ok (.aload_n 0, 1) := by decide +kernel
theorem d_CM_count_82 : decode b_CM_count 82 = .ok (.getfield 21, 3) := by decide +kernel
theorem d_CM_count_85 : decode b_CM_count 85 = .ok (.invokevirtual 84, 3) := by decide +kernel
theorem d_CM_count_88 : decode b_CM_count 88 = .ok (.ireturn, 1) := by decide +kernel
theorem d_CM_count_89 : decode b_CM_count 89 = .ok (.aload_n 0, 1) := by decide +kernel
theorem d_CM_count_90 : decode b_CM_count 90 = .ok (.getfield 28, 3) := by decide +kernel
theorem d_CM_count_93 : decode b_CM_count 93 = .ok (.invokevirtual 120, 3) := by decide +kernel
theorem d_CM_count_96 : decode b_CM_count 96 = .ok (.ireturn, 1) := by decide +kernel
theorem d_CM_count_97 : decode b_CM_count 97 = .ok (.aload_n 0, 1) := by decide +kernel
theorem d_CM_count_98 : decode b_CM_count 98 = .ok (.getfield 28, 3) := by decide +kernel
theorem d_CM_count_101 : decode b_CM_count 101 = .ok (.invokevirtual 123, 3) := by decide +kernel
theorem d_CM_count_104 : decode b_CM_count 104 = .ok (.ireturn, 1) := by decide +kernel
theorem d_CM_count_105 : decode b_CM_count 105 = .ok (.iconst (-1), 1) := by decide +kernel
theorem d_CM_count_106 : decode b_CM_count 106 = .ok (.ireturn, 1) := by decide +kernel
theorem d_CM_isInMap_0 : decode b_CM_isInMap 0 = .ok (.iload_n 0, 1) := by decide +kernel
theorem d_CM_isInMap_1 : decode b_CM_isInMap 1 = .ok (.ifCond .lt 22, 3) := by decide +kernel
theorem d_CM_isInMap_4 : decode b_CM_isInMap 4 = .ok (.iload_n 0, 1) := by decide +kernel
theorem d_CM_isInMap_5 : decode b_CM_isInMap 5 = .ok (.bipush 6, 2) := by decide +kernel
theorem d_CM_isInMap_7 : decode b_CM_isInMap 7 = .ok (.if_icmp .ge 16, 3) := by decide +kernel
theorem d_CM_isInMap_10 : decode b_CM_isInMap 10 = .ok (.iload_n 1, 1) := by decide +kernel
theorem d_CM_isInMap_11 : decode b_CM_isInMap 11 = .ok (.ifCond .lt 12, 3) := by decide +kernel
theorem d_CM_isInMap_14 : decode b_CM_isInMap 14 = .ok (.iload_n 1, 1) := by decide +kernel
theorem d_CM_isInMap_15 : decode b_CM_isInMap 15 = .ok (.iconst 2, 1) := by decide +kernel
theorem d_CM_isInMap_16 : decode b_CM_isInMap 16 = .ok (.if_icmp .ge 7, 3) := by decide +kernel
theorem d_CM_isInMap_19 : decode b_CM_isInMap 19 = .ok (.iconst 1, 1) := by decide +kernel
theorem d_CM_isInMap_20 : decode b_CM_isInMap 20 = .ok (.goto 4, 3) := by decide +kernel
theorem d_CM_isInMap_23 : decode b_CM_isInMap 23 = .ok (.iconst 0, 1) := by decide +kernel
theorem d_CM_isInMap_24 : decode b_CM_isInMap 24 = .ok (.ireturn, 1) := by decide +kernel
theorem d_Ck_init_0 : decode b_Ck_init 0 = .ok (.aload_n 0, 1) := by decide +kernel
theorem d_Ck_init_1 : decode b_Ck_init 1 = .ok (.invokespecial 3, 3) := by decide +kernel
theorem d_Ck_init_4 : decode b_Ck_init 4 = .ok (.aload_n 0, 1) := by decide +kernel
theorem d_Ck_init_5 : decode b_Ck_init 5 = .ok (.aload_n 1, 1) := by decide +kernel
theorem d_Ck_init_6 : decode b_Ck_init 6 = .ok (.putfield 9, 3) := by decide +kernel
theorem d_Ck_init_9 : decode b_Ck_init 9 = .ok (.aload_n 0, 1) := by decide +kernel
theorem d_Ck_init_10 : decode b_Ck_init 10 = .ok (.new 15, 3) := by decide +kernel
theorem d_Ck_init_13 : decode b_Ck_init 13 = .ok (.dup, 1) := by decide +kernel
theorem d_Ck_init_14 : decode b_Ck_init 14 = .ok (.invokespecial 17, 3) := by decide +kernel
theorem d_Ck_init_17 : decode b_Ck_init 17 = .ok (.putfield 18, 3) := by decide +kernel
theorem d_Ck_init_20 : decode b_Ck_init 20 = .ok (.aload_n 0, 1) := by decide +kernel
theorem d_Ck_init_21 : decode b_Ck_init 21 = .ok (.new 22, 3) := by decide +kernel
theorem d_Ck_init_24 : decode b_Ck_init 24 = .ok (.dup, 1) := by decide +kernel
theorem d_Ck_init_25 : decode b_Ck_init 25 = .ok (.aload_n 1, 1) := by decide +kernel
theorem d_Ck_init_26 : decode b_Ck_init 26 = .ok (.aload_n 0, 1) := by decide +kernel
theorem d_Ck_init_27 : decode b_Ck_init 27 = .ok (.getfield 18, 3) := by decide +kernel
theorem d_Ck_init_30 : decode b_Ck_init 30 = .ok (.invokespecial 24, 3) := by decide +kernel
theorem d_Ck_init_33 : decode b_Ck_init 33 = .ok (.putfield 27, 3) := by decide +kernel
theorem d_Ck_init_36 : decode b_Ck_init 36 = .ok (.aload_n 0, 1) := by decide +kernel
theorem d_Ck_init_37 : decode b_Ck_init 37 = .ok (.new 31, 3) := by decide +kernel
theorem d_Ck_init_40 : decode b_Ck_init 40 = .ok (.dup, 1) := by decide +kernel
theorem d_Ck_init_41 : decode b_Ck_init 41 = .ok (.aload_n 0, 1) := by decide +kernel
theorem d_Ck_init_42 : decode b_Ck_init 42 = .ok (.getfield 18, 3) := by decide +kernel
theorem d_Ck_init_45 : decode b_Ck_init 45 = .ok (.invokespecial 33, 3) := by decide +kernel
theorem d_Ck_init_48 : decode b_Ck_init 48 = .ok (.putfield 36, 3) := by decide +kernel
theorem d_Ck_init_51 : decode b_Ck_init 51 = .ok (.aload_n 0, 1) := by decide +kernel
theorem d_Ck_init_52 : decode b_Ck_init 52 = .ok (.bipush 24, 2) := by decide +kernel
theorem d_Ck_init_54 : decode b_Ck_init 54 = .ok (.anewarray 15, 3) := by decide +kernel
theorem d_Ck_init_57 : decode b_Ck_init 57 = .ok (.putfield 40, 3) := by decide +kernel
theorem d_Ck_init_60 : decode b_Ck_init 60 = .ok (.iconst 0, 1) := by decide +kernel
theorem d_Ck_init_61 : decode b_Ck_init 61 = .ok (.istore_n 2, 1) := by decide +kernel
theorem d_Ck_init_62 : decode b_Ck_init 62 = .ok (.iload_n 2, 1) := by decide +kernel
theorem d_Ck_init_63 : decode b_Ck_init 63 = .ok (.bipush 24, 2) := by decide +kernel
theorem d_Ck_init_65 : decode b_Ck_init 65 = .ok (.if_icmp .ge 22, 3) := by decide +kernel
theorem d_Ck_init_68 : decode b_Ck_init 68 = .ok (.aload_n 0, 1) := by decide +kernel
theorem d_Ck_init_69 : decode b_Ck_init 69 = .ok (.getfield 40, 3) := by decide +kernel
theorem d_Ck_init_72 : decode b_Ck_init 72 = .ok (.iload_n 2, 1) := by decide +kernel
theorem d_Ck_init_73 : decode b_Ck_init 73 = .ok (.new 15, 3) := by decide +kernel
theorem d_Ck_init_76 : decode b_Ck_init 76 = .ok (.dup, 1) := by decide +kernel
theorem d_Ck_init_77 : decode b_Ck_init 77 = .ok (.invokespecial 17, 3) := by decide +kernel
theorem d_Ck_init_80 : decode b_Ck_init 80 = .ok (.aastore, 1) := by decide +kernel
theorem d_Ck_init_81 : decode b_Ck_init 81 = .ok (.iinc 2 1, 3) := by decide +kernel
theorem d_Ck_init_84 : decode b_Ck_init 84 = .ok (.goto (-22), 3) := by decide +kernel
theorem d_Ck_init_87 : decode b_Ck_init 87 = .ok (.aload_n 0, 1) := by decide +kernel
theorem d_Ck_init_88 : decode b_Ck_init 88 = .ok (.bipush 24, 2) := by decide +kernel
theorem d_Ck_init_90 : decode b_Ck_init 90 = .ok (.newarray .boolean, 2) := by decide +kernel
theorem d_Ck_init_92 : decode b_Ck_init 92 = .ok (.putfield 44, 3) := by decide +kernel
theorem d_Ck_init_95 : decode b_Ck_init 95 = .ok (.return_, 1) := by decide +kernel
theorem d_Ck_looked_0 : decode b_Ck_looked 0 = .ok (.aload_n 0, 1) := by decide +kernel
theorem d_Ck_looked_1 : decode b_Ck_looked 1 = .ok (.getfield 48, 3) := by decide +kernel
theorem d_Ck_looked_4 : decode b_Ck_looked 4 = .ok (.ireturn, 1) := by decide +kernel
theorem d_Ck_reason_0 : decode b_Ck_reason 0 = .ok (.aload_n 0, 1) := by decide +kernel
theorem d_Ck_reason_1 : decode b_Ck_reason 1 = .ok (.getfield 52, 3) := by decide +kernel
theorem d_Ck_reason_4 : decode b_Ck_reason 4 = .ok (.ireturn, 1) := by decide +kernel
theorem d_Ck_rejectedAt_0 : decode b_Ck_rejectedAt 0 = .ok (.aload_n 0, 1) := by decide +kernel
theorem d_Ck_rejectedAt_1 : decode b_Ck_rejectedAt 1 = .ok (.getfield 55, 3) := by decide +kernel
theorem d_Ck_rejectedAt_4 : decode b_Ck_rejectedAt 4 = .ok (.ireturn, 1) := by decide +kernel
theorem d_Ck_least_0 : decode b_Ck_least 0 = .ok (.aload_n 0, 1) := by decide +kernel
theorem d_Ck_least_1 : decode b_Ck_least 1 = .ok (.getfield 58, 3) := by decide +kernel
theorem d_Ck_least_4 : decode b_Ck_least 4 = .ok (.lreturn, 1) := by decide +kernel
theorem d_Ck_greatest_0 : decode b_Ck_greatest 0 = .ok (.aload_n 0, 1) := by decide +kernel
theorem d_Ck_greatest_1 : decode b_Ck_greatest 1 = .ok (.getfield 62, 3) := by decide +kernel
theorem d_Ck_greatest_4 : decode b_Ck_greatest 4 = .ok (.lreturn, 1) := by decide +kernel
theorem d_Ck_goDownAllWays_0 : decode b_Ck_goDownAllWays 0 = .ok (.aload_n 0, 1) := by decide +kernel
theorem d_Ck_goDownAllWays_1 : decode b_Ck_goDownAllWays 1 = .ok (.invokevirtual 65, 3) := by decide +kernel
theorem d_Ck_goDownAllWays_4 : decode b_Ck_goDownAllWays 4 = .ok (.iconst 0, 1) := by decide +kernel
theorem d_Ck_goDownAllWays_5 : decode b_Ck_goDownAllWays 5 = .ok (.istore_n 1, 1) := by decide +kernel
theorem d_Ck_goDownAllWays_6 : decode b_Ck_goDownAllWays 6 = .ok (.iconst 0, 1) := by decide +kernel
theorem d_Ck_goDownAllWays_7 : decode b_Ck_goDownAllWays 7 = .ok (.istore_n 2, 1) := by decide +kernel
theorem d_Ck_goDownAllWays_8 : decode b_Ck_goDownAllWays 8 = .ok (.iload_n 2, 1) := by decide +kernel
theorem d_Ck_goDownAllWays_9 : decode b_Ck_goDownAllWays 9 = .ok (.sipush 300, 3) := by decide +kernel
theorem d_Ck_goDownAllWays_12 : decode b_Ck_goDownAllWays 12 = .ok (.if_icmp .ge 30, 3) := by decide +kernel
theorem d_Ck_goDownAllWays_15 : decode b_Ck_goDownAllWays 15 = .ok (.iload_n 1, 1) := by decide +kernel
theorem d_Ck_goDownAllWays_16 : decode b_Ck_goDownAllWays 16 = .ok (.iconst (-1), 1) := by decide +kernel
theorem d_Ck_goDownAllWays_17 : decode b_Ck_goDownAllWays 17 = .ok (.if_icmp .eq 25, 3) := by decide +kernel
theorem d_Ck_goDownAllWays_20 : decode b_Ck_goDownAllWays 20 = .ok (.aload_n 0, 1) := by decide +kernel
theorem d_Ck_goDownAllWays_21 : decode b_Ck_goDownAllWays 21 = .ok (.dup, 1) := by decide +kernel
theorem d_Ck_goDownAllWays_22 : decode b_Ck_goDownAllWays 22 = .ok (.getfield 48, 3) := by decide +kernel
theorem d_Ck_goDownAllWays_25 : decode b_Ck_goDownAllWays 25 = .ok (.iconst 1, 1) := by decide +kernel
theorem d_Ck_goDownAllWays_26 : decode b_Ck_goDownAllWays 26 = .ok (.iadd, 1) := by decide +kernel
theorem d_Ck_goDownAllWays_27 : decode b_Ck_goDownAllWays 27 = .ok (.putfield 48, 3) := by decide +kernel
theorem d_Ck_goDownAllWays_30 : decode b_Ck_goDownAllWays 30 = .ok (.aload_n 0, 1) := by decide +kernel
theorem d_Ck_goDownAllWays_31 : decode b_Ck_goDownAllWays 31 = .ok (.iload_n 1, 1) := by decide +kernel
theorem d_Ck_goDownAllWays_32 : decode b_Ck_goDownAllWays 32 = .ok (.invokevirtual 68, 3) := by decide +kernel
theorem d_Ck_goDownAllWays_35 : decode b_Ck_goDownAllWays 35 = .ok (.istore_n 1, 1) := by decide +kernel
theorem d_Ck_goDownAllWays_36 : decode b_Ck_goDownAllWays 36 = .ok (.iinc 2 1, 3) := by decide +kernel
theorem d_Ck_goDownAllWays_39 : decode b_Ck_goDownAllWays 39 = .ok (.goto (-31), 3) := by decide +kernel
theorem d_Ck_goDownAllWays_42 : decode b_Ck_goDownAllWays 42 = .ok (.iload_n 1, 1) := by decide +kernel
theorem d_Ck_goDownAllWays_43 : decode b_Ck_goDownAllWays 43 = .ok (.iconst (-1), 1) := by decide +kernel
theorem d_Ck_goDownAllWays_44 : decode b_Ck_goDownAllWays 44 = .ok (.if_icmp .eq 8, 3) := by decide +kernel
theorem d_Ck_goDownAllWays_47 : decode b_Ck_goDownAllWays 47 = .ok (.aload_n 0, 1) := by decide +kernel
theorem d_Ck_goDownAllWays_48 : decode b_Ck_goDownAllWays 48 = .ok (.iconst 2, 1) := by decide +kernel
theorem d_Ck_goDownAllWays_49 : decode b_Ck_goDownAllWays 49 = .ok (.putfield 72, 3) := by decide +kernel
theorem d_Ck_goDownAllWays_52 : decode b_Ck_goDownAllWays 52 = .ok (.aload_n 0, 1) := by decide +kernel
theorem d_Ck_goDownAllWays_53 : decode b_Ck_goDownAllWays 53 = .ok (.getfield 72, 3) := by decide +kernel
theorem d_Ck_goDownAllWays_56 : decode b_Ck_goDownAllWays 56 = .ok (.ireturn, 1) := by decide +kernel
theorem d_Ck_begin_0 : decode b_Ck_begin 0 = .ok (.aload_n 0, 1) := by decide +kernel
theorem d_Ck_begin_1 : decode b_Ck_begin 1 = .ok (.getfield 18, 3) := by decide +kernel
theorem d_Ck_begin_4 : decode b_Ck_begin 4 = .ok (.invokevirtual 75, 3) := by decide +kernel
theorem d_Ck_begin_7 : decode b_Ck_begin 7 = .ok (.iconst 0, 1) := by decide +kernel
theorem d_Ck_begin_8 : decode b_Ck_begin 8 = .ok (.istore_n 1, 1) := by decide +kernel
theorem d_Ck_begin_9 : decode b_Ck_begin 9 = .ok (.iload_n 1, 1) := by decide +kernel
theorem d_Ck_begin_10 : decode b_Ck_begin 10 = .ok (.bipush 24, 2) := by decide +kernel
theorem d_Ck_begin_12 : decode b_Ck_begin 12 = .ok (.if_icmp .ge 16, 3) := by decide +kernel
theorem d_Ck_begin_15 : decode b_Ck_begin 15 = .ok (.aload_n 0, 1) := by decide +kernel
theorem d_Ck_begin_16 : decode b_Ck_begin 16 = .ok (.getfield 44, 3) := by decide +kernel
theorem d_Ck_begin_19 : decode b_Ck_begin 19 = .ok (.iload_n 1, 1) := by decide +kernel
theorem d_Ck_begin_20 : decode b_Ck_begin 20 = .ok (.iconst 0, 1) := by decide +kernel
theorem d_Ck_begin_21 : decode b_Ck_begin 21 = .ok (.bastore, 1) := by decide +kernel
theorem d_Ck_begin_22 : decode b_Ck_begin 22 = .ok (.iinc 1 1, 3) := by decide +kernel
theorem d_Ck_begin_25 : decode b_Ck_begin 25 = .ok (.goto (-16), 3) := by decide +kernel
theorem d_Ck_begin_28 : decode b_Ck_begin 28 = .ok (.aload_n 0, 1) := by decide +kernel
theorem d_Ck_begin_29 : decode b_Ck_begin 29 = .ok (.iconst 0, 1) := by decide +kernel
theorem d_Ck_begin_30 : decode b_Ck_begin 30 = .ok (.putfield 72, 3) := by decide +kernel
theorem d_Ck_begin_33 : decode b_Ck_begin 33 = .ok (.aload_n 0, 1) := by decide +kernel
theorem d_Ck_begin_34 : decode b_Ck_begin 34 = .ok (.iconst 0, 1) := by decide +kernel
theorem d_Ck_begin_35 : decode b_Ck_begin 35 = .ok (.putfield 48, 3) := by decide +kernel
theorem d_Ck_begin_38 : decode b_Ck_begin 38 = .ok (.aload_n 0, 1) := by decide +kernel
theorem d_Ck_begin_39 : decode b_Ck_begin 39 = .ok (.iconst 0, 1) := by decide +kernel
theorem d_Ck_begin_40 : decode b_Ck_begin 40 = .ok (.putfield 76, 3) := by decide +kernel
theorem d_Ck_begin_43 : decode b_Ck_begin 43 = .ok (.return_, 1) := by decide +kernel
theorem d_Ck_lookAt_0 : decode b_Ck_lookAt 0 = .ok (.aload_n 0, 1) := by decide +kernel
theorem d_Ck_lookAt_1 : decode b_Ck_lookAt 1 = .ok (.getfield 9, 3) := by decide +kernel
theorem d_Ck_lookAt_4 : decode b_Ck_lookAt 4 = .ok (.iload_n 1, 1) := by decide +kernel
theorem d_Ck_lookAt_5 : decode b_Ck_lookAt 5 = .ok (.invokevirtual 80, 3) := by decide +kernel
theorem d_Ck_lookAt_8 : decode b_Ck_lookAt 8 = .ok (.astore_n 2, 1) := by decide +kernel
theorem d_Ck_lookAt_9 : decode b_Ck_lookAt 9 = .ok (.aload_n 0, 1) := by decide +kernel
theorem d_Ck_lookAt_10 : decode b_Ck_lookAt 10 = .ok (.getfield 27, 3) := by decide +kernel
theorem d_Ck_lookAt_13 : decode b_Ck_lookAt 13 = .ok (.aload_n 2, 1) := by decide +kernel
theorem d_Ck_lookAt_14 : decode b_Ck_lookAt 14 = .ok (.iload_n 1, 1) := by decide +kernel
theorem d_Ck_lookAt_15 : decode b_Ck_lookAt 15 = .ok (.invokevirtual 86, 3) := by decide +kernel
theorem d_Ck_lookAt_18 : decode b_Ck_lookAt 18 = .ok (.istore_n 3, 1) := by decide +kernel
theorem d_Ck_lookAt_19 : decode b_Ck_lookAt 19 = .ok (.aload_n 2, 1) := by decide +kernel
theorem d_Ck_lookAt_20 : decode b_Ck_lookAt 20 = .ok (.ifnull 7, 3) := by decide +kernel
theorem d_Ck_lookAt_23 : decode b_Ck_lookAt 23 = .ok (.iload_n 3, 1) := by decide +kernel
theorem d_Ck_lookAt_24 : decode b_Ck_lookAt 24 = .ok (.ifCond .eq 11, 3) := by decide +kernel
theorem d_Ck_lookAt_27 : decode b_Ck_lookAt 27 = .ok (.aload_n 0, 1) := by decide +kernel
theorem d_Ck_lookAt_28 : decode b_Ck_lookAt 28 = .ok (.iload_n 3, 1) := by decide +kernel
theorem d_Ck_lookAt_29 : decode b_Ck_lookAt 29 = .ok (.iload_n 1, 1) := by decide +kernel
theorem d_Ck_lookAt_30 : decode b_Ck_lookAt 30 = .ok (.invokevirtual 90, 3) := by decide +kernel
theorem d_Ck_lookAt_33 : decode b_Ck_lookAt 33 = .ok (.iconst (-1), 1) := by decide +kernel
theorem d_Ck_lookAt_34 : decode b_Ck_lookAt 34 = .ok (.ireturn, 1) := by decide +kernel
theorem d_Ck_lookAt_35 : decode b_Ck_lookAt 35 = .ok (.aload_n 2, 1) := by decide +kernel
theorem d_Ck_lookAt_36 : decode b_Ck_lookAt 36 = .ok (.getfield 94, 3) := by decide +kernel
theorem d_Ck_lookAt_39 : decode b_Ck_lookAt 39 = .ok (.bipush 17, 2) := by decide +kernel
theorem d_Ck_lookAt_41 : decode b_Ck_lookAt 41 = .ok (.if_icmp .ne 28, 3) := by decide +kernel
theorem d_Ck_lookAt_44 : decode b_Ck_lookAt 44 = .ok (.aload_n 0, 1) := by decide +kernel
theorem d_Ck_lookAt_45 : decode b_Ck_lookAt 45 = .ok (.aload_n 0, 1) := by decide +kernel
theorem d_Ck_lookAt_46 : decode b_Ck_lookAt 46 = .ok (.getfield 18, 3) := by decide +kernel
theorem d_Ck_lookAt_49 : decode b_Ck_lookAt 49 = .ok (.iconst 0, 1) := by decide +kernel
theorem d_Ck_lookAt_50 : decode b_Ck_lookAt 50 = .ok (.invokevirtual 99, 3) := by decide +kernel
theorem d_Ck_lookAt_53 : decode b_Ck_lookAt 53 = .ok (.aload_n 0, 1) := by decide +kernel
theorem d_Ck_lookAt_54 : decode b_Ck_lookAt 54 = .ok (.getfield 18, 3) := by decide +kernel
theorem d_Ck_lookAt_57 : decode b_Ck_lookAt 57 = .ok (.iconst 0, 1) := by decide +kernel
theorem d_Ck_lookAt_58 : decode b_Ck_lookAt 58 = .ok (.invokevirtual 103, 3) := by decide +kernel
theorem d_Ck_lookAt_61 : decode b_Ck_lookAt 61 = .ok (.invokevirtual 106, 3) := by decide +kernel
theorem d_Ck_lookAt_64 : decode b_Ck_lookAt 64 = .ok (.aload_n 0, 1) := by decide +kernel
theorem d_Ck_lookAt_65 : decode b_Ck_lookAt 65 = .ok (.invokevirtual 110, 3) := by decide +kernel
theorem d_Ck_lookAt_68 : decode b_Ck_lookAt 68 = .ok (.ireturn, 1) := by decide +kernel
theorem d_Ck_lookAt_69 : decode b_Ck_lookAt 69 = .ok (.aload_n 2, 1) := by decide +kernel
theorem d_Ck_lookAt_70 : decode b_Ck_lookAt 70 = .ok (.invokevirtual 114, 3) := by decide +kernel
theorem d_Ck_lookAt_73 : decode b_Ck_lookAt 73 = .ok (.ifCond .eq 10, 3) := by decide +kernel
theorem d_Ck_lookAt_76 : decode b_Ck_lookAt 76 = .ok (.aload_n 0, 1) := by decide +kernel
theorem d_Ck_lookAt_77 : decode b_Ck_lookAt 77 = .ok (.aload_n 2, 1) := by decide +kernel
theorem d_Ck_lookAt_78 : decode b_Ck_lookAt 78 = .ok (.iload_n 1, 1) := by decide +kernel
theorem d_Ck_lookAt_79 : decode b_Ck_lookAt 79 = .ok (.invokevirtual 118, 3) := by decide +kernel
theorem d_Ck_lookAt_82 : decode b_Ck_lookAt 82 = .ok (.ireturn, 1) := by decide +kernel
theorem d_Ck_lookAt_83 : decode b_Ck_lookAt 83 = .ok (.aload_n 0, 1) := by decide +kernel
theorem d_Ck_lookAt_84 : decode b_Ck_lookAt 84 = .ok (.getfield 36, 3) := by decide +kernel
theorem d_Ck_lookAt_87 : decode b_Ck_lookAt 87 = .ok (.aload_n 2, 1) := by decide +kernel
theorem d_Ck_lookAt_88 : decode b_Ck_lookAt 88 = .ok (.invokevirtual 121, 3) := by decide +kernel
theorem d_Ck_lookAt_91 : decode b_Ck_lookAt 91 = .ok (.iload_n 1, 1) := by decide +kernel
theorem d_Ck_lookAt_92 : decode b_Ck_lookAt 92 = .ok (.iconst 1, 1) := by decide +kernel
theorem d_Ck_lookAt_93 : decode b_Ck_lookAt 93 = .ok (.iadd, 1) := by decide +kernel
theorem d_Ck_lookAt_94 : decode b_Ck_lookAt 94 = .ok (.ireturn, 1) := by decide +kernel
theorem d_Ck_reject_0 : decode b_Ck_reject 0 = .ok (.aload_n 0, 1) := by decide +kernel
theorem d_Ck_reject_1 : decode b_Ck_reject 1 = .ok (.iconst 1, 1) := by decide +kernel
theorem d_Ck_reject_2 : decode b_Ck_reject 2 = .ok (.putfield 72, 3) := by decide +kernel
theorem d_Ck_reject_5 : decode b_Ck_reject 5 = .ok (.aload_n 0, 1) := by decide +kernel
theorem d_Ck_reject_6 : decode b_Ck_reject 6 = .ok (.iload_n 1, 1) := by decide +kernel
theorem d_Ck_reject_7 : decode b_Ck_reject 7 = .ok (.putfield 52, 3) := by decide +kernel
theorem d_Ck_reject_10 : decode b_Ck_reject 10 = .ok (.aload_n 0, 1) := by decide +kernel
theorem d_Ck_reject_11 : decode b_Ck_reject 11 = .ok (.iload_n 2, 1) := by decide +kernel
theorem d_Ck_reject_12 : decode b_Ck_reject 12 = .ok (.putfield 55, 3) := by decide +kernel
theorem d_Ck_reject_15 : decode b_Ck_reject 15 = .ok (.return_, 1) := by decide +kernel
theorem d_Ck_growOutcomes_0 : decode b_Ck_growOutcomes 0 = .ok (.aload_n 0, 1) := by decide +kernel
theorem d_Ck_growOutcomes_1 : decode b_Ck_growOutcomes 1 = .ok (.aload_n 0, 1) := by decide +kernel
theorem d_Ck_growOutcomes_2 : decode b_Ck_growOutcomes 2 = .ok (.getfield 76, 3) := by decide +kernel
theorem d_Ck_growOutcomes_5 : decode b_Ck_growOutcomes 5 = .ok (.ifCond .eq 14, 3) := by decide +kernel
theorem d_Ck_growOutcomes_8 : decode b_Ck_growOutcomes 8 = .ok (.aload_n 0, 1) := by decide +kernel
theorem d_Ck_growOutcomes_9 : decode b_Ck_growOutcomes 9 = .ok (.getfield 58, 3) := by decide +kernel
theorem d_Ck_growOutcomes_12 : decode b_Ck_growOutcomes 12 = .ok (.lload_n 1, 1) := by decide +kernel
theorem d_Ck_growOutcomes_13 : decode b_Ck_growOutcomes 13 = .ok (.invokestatic 125, 3) := by decide +kernel
theorem d_Ck_growOutcomes_16 : decode b_Ck_growOutcomes 16 = .ok (.goto 4, 3) := by decide +kernel
theorem d_Ck_growOutcomes_19 : decode b_Ck_growOutcomes 19 = .ok (.lload_n 1, 1) := by decide +kernel
theorem d_Ck_growOutcomes_20 : decode b_Ck_growOutcomes 20 = .ok (.putfield 58, 3) := by decide +kernel
theorem d_Ck_growOutcomes_23 : decode b_Ck_growOutcomes 23 = .ok (.aload_n 0, 1) := by decide +kernel
theorem d_Ck_growOutcomes_24 : decode b_Ck_growOutcomes 24 = .ok (.aload_n 0, 1) := by decide +kernel
theorem d_Ck_growOutcomes_25 : decode b_Ck_growOutcomes 25 = .ok (.getfield 76, 3) := by decide +kernel
theorem d_Ck_growOutcomes_28 : decode b_Ck_growOutcomes 28 = .ok (.ifCond .eq 14, 3) := by decide +kernel
theorem d_Ck_growOutcomes_31 : decode b_Ck_growOutcomes 31 = .ok (.aload_n 0, 1) := by decide +kernel
theorem d_Ck_growOutcomes_32 : decode b_Ck_growOutcomes 32 = .ok (.getfield 62, 3) := by decide +kernel
theorem d_Ck_growOutcomes_35 : decode b_Ck_growOutcomes 35 = .ok (.lload_n 3, 1) := by decide +kernel
theorem d_Ck_growOutcomes_36 : decode b_Ck_growOutcomes 36 = .ok (.invokestatic 131, 3) := by decide +kernel
theorem d_Ck_growOutcomes_39 : decode b_Ck_growOutcomes 39 = .ok (.goto 4, 3) := by decide +kernel
theorem d_Ck_growOutcomes_42 : decode b_Ck_growOutcomes 42 = .ok (.lload_n 3, 1) := by decide +kernel
theorem d_Ck_growOutcomes_43 : decode b_Ck_growOutcomes 43 = .ok (.putfield 62, 3) := by decide +kernel
theorem d_Ck_growOutcomes_46 : decode b_Ck_growOutcomes 46 = .ok (.aload_n 0, 1) := by decide +kernel
theorem d_Ck_growOutcomes_47 : decode b_Ck_growOutcomes 47 = .ok (.iconst 1, 1) := by decide +kernel
theorem d_Ck_growOutcomes_48 : decode b_Ck_growOutcomes 48 = .ok (.putfield 76, 3) := by decide +kernel
theorem d_Ck_growOutcomes_51 : decode b_Ck_growOutcomes 51 = .ok (.return_, 1) := by decide +kernel
theorem d_Ck_fork_0 : decode b_Ck_fork 0 = .ok (.aload_n 1, 1) := by decide +kernel
theorem d_Ck_fork_1 : decode b_Ck_fork 1 = .ok (.aload_n 0, 1) := by decide +kernel
theorem d_Ck_fork_2 : decode b_Ck_fork 2 = .ok (.getfield 18, 3) := by decide +kernel
theorem d_Ck_fork_5 : decode b_Ck_fork 5 = .ok (.invokestatic 134, 3) := by decide +kernel
theorem d_Ck_fork_8 : decode b_Ck_fork 8 = .ok (.istore_n 3, 1) := by decide +kernel
theorem d_Ck_fork_9 : decode b_Ck_fork 9 = .ok (.aload_n 1, 1) := by decide +kernel
theorem d_Ck_fork_10 : decode b_Ck_fork 10 = .ok (.aload_n 0, 1) := by decide +kernel
theorem d_Ck_fork_11 : decode b_Ck_fork 11 = .ok (.getfield 18, 3) := by decide +kernel
theorem d_Ck_fork_14 : decode b_Ck_fork 14 = .ok (.invokestatic 140, 3) := by decide +kernel
theorem d_Ck_fork_17 : decode b_Ck_fork 17 = .ok (.ifCond .ne 16, 3) := by decide +kernel
theorem d_Ck_fork_20 : decode b_Ck_fork 20 = .ok (.aload_n 1, 1) := by decide +kernel
theorem d_Ck_fork_21 : decode b_Ck_fork 21 = .ok (.aload_n 0, 1) := by decide +kernel
theorem d_Ck_fork_22 : decode b_Ck_fork 22 = .ok (.getfield 18, 3) := by decide +kernel
theorem d_Ck_fork_25 : decode b_Ck_fork 25 = .ok (.invokestatic 143, 3) := by decide +kernel
theorem d_Ck_fork_28 : decode b_Ck_fork 28 = .ok (.aload_n 1, 1) := by decide +kernel
theorem d_Ck_fork_29 : decode b_Ck_fork 29 = .ok (.getfield 147, 3) := by decide +kernel
theorem d_Ck_fork_32 : decode b_Ck_fork 32 = .ok (.ireturn, 1) := by decide +kernel
theorem d_Ck_fork_33 : decode b_Ck_fork 33 = .ok (.iload_n 3, 1) := by decide +kernel
theorem d_Ck_fork_34 : decode b_Ck_fork 34 = .ok (.ifCond .eq 33, 3) := by decide +kernel
theorem d_Ck_fork_37 : decode b_Ck_fork 37 = .ok (.aload_n 0, 1) := by decide +kernel
theorem d_Ck_fork_38 : decode b_Ck_fork 38 = .ok (.getfield 40, 3) := by decide +kernel
theorem d_Ck_fork_41 : decode b_Ck_fork 41 = .ok (.iload_n 2, 1) := by decide +kernel
theorem d_Ck_fork_42 : decode b_Ck_fork 42 = .ok (.aaload, 1) := by decide +kernel
theorem d_Ck_fork_43 : decode b_Ck_fork 43 = .ok (.aload_n 0, 1) := by decide +kernel
theorem d_Ck_fork_44 : decode b_Ck_fork 44 = .ok (.getfield 18, 3) := by decide +kernel
theorem d_Ck_fork_47 : decode b_Ck_fork 47 = .ok (.invokevirtual 150, 3) := by decide +kernel
theorem d_Ck_fork_50 : decode b_Ck_fork 50 = .ok (.aload_n 1, 1) := by decide +kernel
theorem d_Ck_fork_51 : decode b_Ck_fork 51 = .ok (.aload_n 0, 1) := by decide +kernel
theorem d_Ck_fork_52 : decode b_Ck_fork 52 = .ok (.getfield 40, 3) := by decide +kernel
theorem d_Ck_fork_55 : decode b_Ck_fork 55 = .ok (.iload_n 2, 1) := by decide +kernel
theorem d_Ck_fork_56 : decode b_Ck_fork 56 = .ok (.aaload, 1) := by decide +kernel
theorem d_Ck_fork_57 : decode b_Ck_fork 57 = .ok (.invokestatic 143, 3) := by decide +kernel
theorem d_Ck_fork_60 : decode b_Ck_fork 60 = .ok (.aload_n 0, 1) := by decide +kernel
theorem d_Ck_fork_61 : decode b_Ck_fork 61 = .ok (.getfield 44, 3) := by decide +kernel
theorem d_Ck_fork_64 : decode b_Ck_fork 64 = .ok (.iload_n 2, 1) := by decide +kernel
theorem d_Ck_fork_65 : decode b_Ck_fork 65 = .ok (.iconst 1, 1) := by decide +kernel
theorem d_Ck_fork_66 : decode b_Ck_fork 66 = .ok (.bastore, 1) := by decide +kernel
theorem d_Ck_fork_67 : decode b_Ck_fork 67 = .ok (.aload_n 1, 1) := by decide +kernel
theorem d_Ck_fork_68 : decode b_Ck_fork 68 = .ok (.aload_n 0, 1) := by decide +kernel
theorem d_Ck_fork_69 : decode b_Ck_fork 69 = .ok (.getfield 18, 3) := by decide +kernel
theorem d_Ck_fork_72 : decode b_Ck_fork 72 = .ok (.invokestatic 153, 3) := by decide +kernel
theorem d_Ck_fork_75 : decode b_Ck_fork 75 = .ok (.iload_n 2, 1) := by decide +kernel
theorem d_Ck_fork_76 : decode b_Ck_fork 76 = .ok (.iconst 1, 1) := by decide +kernel
theorem d_Ck_fork_77 : decode b_Ck_fork 77 = .ok (.iadd, 1) := by decide +kernel
theorem d_Ck_fork_78 : decode b_Ck_fork 78 = .ok (.ireturn, 1) := by decide +kernel
theorem d_Ck_takeUpLatest_0 : decode b_Ck_takeUpLatest 0 = .ok (.bipush 23, 2) := by decide +kernel
theorem d_Ck_takeUpLatest_2 : decode b_Ck_takeUpLatest 2 = .ok (.istore_n 1, 1) := by decide +kernel
theorem d_Ck_takeUpLatest_3 : decode b_Ck_takeUpLatest 3 = .ok (.iload_n 1, 1) := by decide +kernel
theorem d_Ck_takeUpLatest_4 : decode b_Ck_takeUpLatest 4 = .ok (.ifCond .lt 56, 3) := by decide +kernel
theorem d_Ck_takeUpLatest_7 : decode b_Ck_takeUpLatest 7 = .ok (.aload_n 0, 1) := by decide +kernel
theorem d_Ck_takeUpLatest_8 : decode b_Ck_takeUpLatest 8 = .ok (.getfield 9, 3) := by decide +kernel
theorem d_Ck_takeUpLatest_11 : decode b_Ck_takeUpLatest 11 = .ok (.iload_n 1, 1) := by decide +kernel
theorem d_Ck_takeUpLatest_12 : decode b_Ck_takeUpLatest 12 = .ok (.invokevirtual 80, 3) := by decide +kernel
theorem d_Ck_takeUpLatest_15 : decode b_Ck_takeUpLatest 15 = .ok (.astore_n 2, 1) := by decide +kernel
theorem d_Ck_takeUpLatest_16 : decode b_Ck_takeUpLatest 16 = .ok (.aload_n 0, 1) := by decide +kernel
theorem d_Ck_takeUpLatest_17 : decode b_Ck_takeUpLatest 17 = .ok (.getfield 44, 3) := by decide +kernel
theorem d_Ck_takeUpLatest_20 : decode b_Ck_takeUpLatest 20 = .ok (.iload_n 1, 1) := by decide +kernel
theorem d_Ck_takeUpLatest_21 : decode b_Ck_takeUpLatest 21 = .ok (.baload, 1) := by decide +kernel
theorem d_Ck_takeUpLatest_22 : decode b_Ck_takeUpLatest 22 = .ok (.ifCond .eq 32, 3) := by decide +kernel
theorem d_Ck_takeUpLatest_25 : decode b_Ck_takeUpLatest 25 = .ok (.aload_n 2, 1) := by decide +kernel
theorem d_Ck_takeUpLatest_26 : decode b_Ck_takeUpLatest 26 = .ok (.ifnull 28, 3) := by decide +kernel
theorem d_Ck_takeUpLatest_29 : decode b_Ck_takeUpLatest 29 = .ok (.aload_n 0, 1) := by decide +kernel
theorem d_Ck_takeUpLatest_30 : decode b_Ck_takeUpLatest 30 = .ok (.getfield 44, 3) := by decide +kernel
theorem d_Ck_takeUpLatest_33 : decode b_Ck_takeUpLatest 33 = .ok (.iload_n 1, 1) := by decide +kernel
theorem d_Ck_takeUpLatest_34 : decode b_Ck_takeUpLatest 34 = .ok (.iconst 0, 1) := by decide +kernel
theorem d_Ck_takeUpLatest_35 : decode b_Ck_takeUpLatest 35 = .ok (.bastore, 1) := by decide +kernel
theorem d_Ck_takeUpLatest_36 : decode b_Ck_takeUpLatest 36 = .ok (.aload_n 0, 1) := by decide +kernel
theorem d_Ck_takeUpLatest_37 : decode b_Ck_takeUpLatest 37 = .ok (.getfield 18, 3) := by decide +kernel
theorem d_Ck_takeUpLatest_40 : decode b_Ck_takeUpLatest 40 = .ok (.aload_n 0, 1) := by decide +kernel
theorem d_Ck_takeUpLatest_41 : decode b_Ck_takeUpLatest 41 = .ok (.getfield 40, 3) := by decide +kernel
theorem d_Ck_takeUpLatest_44 : decode b_Ck_takeUpLatest 44 = .ok (.iload_n 1, 1) := by decide +kernel
theorem d_Ck_takeUpLatest_45 : decode b_Ck_takeUpLatest 45 = .ok (.aaload, 1) := by decide +kernel
theorem d_Ck_takeUpLatest_46 : decode b_Ck_takeUpLatest 46 = .ok (.invokevirtual 150, 3) := by decide +kernel
theorem d_Ck_takeUpLatest_49 : decode b_Ck_takeUpLatest 49 = .ok (.aload_n 2, 1) := by decide +kernel
theorem d_Ck_takeUpLatest_50 : decode b_Ck_takeUpLatest 50 = .ok (.getfield 147, 3) := by decide +kernel
theorem d_Ck_takeUpLatest_53 : decode b_Ck_takeUpLatest 53 = .ok (.ireturn, 1) := by decide +kernel
theorem d_Ck_takeUpLatest_54 : decode b_Ck_takeUpLatest 54 = .ok (.iinc 1 (-1), 3) := by decide +kernel
theorem d_Ck_takeUpLatest_57 : decode b_Ck_takeUpLatest 57 = .ok (.goto (-54), 3) := by decide +kernel
theorem d_Ck_takeUpLatest_60 : decode b_Ck_takeUpLatest 60 = .ok (.iconst (-1), 1) := by decide +kernel
theorem d_Ck_takeUpLatest_61 : decode b_Ck_takeUpLatest 61 = .ok (.ireturn, 1) := by decide +kernel
theorem d_Jg_init_0 : decode b_Jg_init 0 = .ok (.aload_n 0, 1) := by decide +kernel
theorem d_Jg_init_1 : decode b_Jg_init 1 = .ok (.invokespecial 3, 3) := by decide +kernel
theorem d_Jg_init_4 : decode b_Jg_init 4 = .ok (.aload_n 0, 1) := by decide +kernel
theorem d_Jg_init_5 : decode b_Jg_init 5 = .ok (.aload_n 1, 1) := by decide +kernel
theorem d_Jg_init_6 : decode b_Jg_init 6 = .ok (.putfield 9, 3) := by decide +kernel
theorem d_Jg_init_9 : decode b_Jg_init 9 = .ok (.aload_n 0, 1) := by decide +kernel
theorem d_Jg_init_10 : decode b_Jg_init 10 = .ok (.aload_n 2, 1) := by decide +kernel
theorem d_Jg_init_11 : decode b_Jg_init 11 = .ok (.putfield 15, 3) := by decide +kernel
theorem d_Jg_init_14 : decode b_Jg_init 14 = .ok (.return_, 1) := by decide +kernel
theorem d_Jg_reasonAgainst_0 : decode b_Jg_reasonAgainst 0 = .ok (.aload_n 1, 1) := by decide +kernel
theorem d_Jg_reasonAgainst_1 : decode b_Jg_reasonAgainst 1 = .ok (.ifnull 12, 3) := by decide +kernel
theorem d_Jg_reasonAgainst_4 : decode b_Jg_reasonAgainst 4 = .ok (.aload_n 0, 1) := by decide +kernel
theorem d_Jg_reasonAgainst_5 : decode b_Jg_reasonAgainst 5 = .ok (.aload_n 1, 1) := by decide +kernel
theorem d_Jg_reasonAgainst_6 : decode b_Jg_reasonAgainst 6 = .ok (.iload_n 2, 1) := by decide +kernel
theorem d_Jg_reasonAgainst_7 : decode b_Jg_reasonAgainst 7 = .ok (.invokevirtual 19, 3) := by decide +kernel
theorem d_Jg_reasonAgainst_10 : decode b_Jg_reasonAgainst 10 = .ok (.ifCond .eq 5, 3) := by decide +kernel
theorem d_Jg_reasonAgainst_13 : decode b_Jg_reasonAgainst 13 = .ok (.iconst 1, 1) := by decide +kernel
theorem d_Jg_reasonAgainst_14 : decode b_Jg_reasonAgainst 14 = .ok (.ireturn, 1) := by decide +kernel
theorem d_Jg_reasonAgainst_15 : decode b_Jg_reasonAgainst 15 = .ok (.aload_n 0, 1) := by decide +kernel
theorem d_Jg_reasonAgainst_16 : decode b_Jg_reasonAgainst 16 = .ok (.aload_n 1, 1) := by decide +kernel
theorem d_Jg_reasonAgainst_17 : decode b_Jg_reasonAgainst 17 = .ok (.invokevirtual 23, 3) := by decide +kernel
theorem d_Jg_reasonAgainst_20 : decode b_Jg_reasonAgainst 20 = .ok (.ifCond .eq 5, 3) := by decide +kernel
theorem d_Jg_reasonAgainst_23 : decode b_Jg_reasonAgainst 23 = .ok (.iconst 2, 1) := by decide +kernel
theorem d_Jg_reasonAgainst_24 : decode b_Jg_reasonAgainst 24 = .ok (.ireturn, 1) := by decide +kernel
theorem d_Jg_reasonAgainst_25 : decode b_Jg_reasonAgainst 25 = .ok (.aload_n 1, 1) := by decide +kernel
theorem d_Jg_reasonAgainst_26 : decode b_Jg_reasonAgainst 26 = .ok (.invokestatic 27, 3) := by decide +kernel
theorem d_Jg_reasonAgainst_29 : decode b_Jg_reasonAgainst 29 = .ok (.ifCond .eq 5, 3) := by decide +kernel
theorem d_Jg_reasonAgainst_32 : decode b_Jg_reasonAgainst 32 = .ok (.iconst 3, 1) := by decide +kernel
theorem d_Jg_reasonAgainst_33 : decode b_Jg_reasonAgainst 33 = .ok (.ireturn, 1) := by decide +kernel
theorem d_Jg_reasonAgainst_34 : decode b_Jg_reasonAgainst 34 = .ok (.aload_n 0, 1) := by decide +kernel
theorem d_Jg_reasonAgainst_35 : decode b_Jg_reasonAgainst 35 = .ok (.aload_n 1, 1) := by decide +kernel
theorem d_Jg_reasonAgainst_36 : decode b_Jg_reasonAgainst 36 = .ok (.invokevirtual 30, 3) := by decide +kernel
theorem d_Jg_reasonAgainst_39 : decode b_Jg_reasonAgainst 39 = .ok (.ifCond .ne 11, 3) := by decide +kernel
theorem d_Jg_reasonAgainst_42 : decode b_Jg_reasonAgainst 42 = .ok (.aload_n 0, 1) := by decide +kernel
theorem d_Jg_reasonAgainst_43 : decode b_Jg_reasonAgainst 43 = .ok (.aload_n 1, 1) := by decide +kernel
theorem d_Jg_reasonAgainst_44 : decode b_Jg_reasonAgainst 44 = .ok (.invokevirtual 33, 3) := by decide +kernel
theorem d_Jg_reasonAgainst_47 : decode b_Jg_reasonAgainst 47 = .ok (.ifCond .eq 5, 3) := by decide +kernel
theorem d_Jg_reasonAgainst_50 : decode b_Jg_reasonAgainst 50 = .ok (.iconst 4, 1) := by decide +kernel
theorem d_Jg_reasonAgainst_51 : decode b_Jg_reasonAgainst 51 = .ok (.ireturn, 1) := by decide +kernel
theorem d_Jg_reasonAgainst_52 : decode b_Jg_reasonAgainst 52 = .ok (.aload_n 0, 1) := by decide +kernel
theorem d_Jg_reasonAgainst_53 : decode b_Jg_reasonAgainst 53 = .ok (.aload_n 1, 1) := by decide +kernel
theorem d_Jg_reasonAgainst_54 : decode b_Jg_reasonAgainst 54 = .ok (.invokevirtual 36, 3) := by decide +kernel
theorem d_Jg_reasonAgainst_57 : decode b_Jg_reasonAgainst 57 = .ok (.ifCond .eq 5, 3) := by decide +kernel
theorem d_Jg_reasonAgainst_60 : decode b_Jg_reasonAgainst 60 = .ok (.iconst 5, 1) := by decide +kernel
theorem d_Jg_reasonAgainst_61 : decode b_Jg_reasonAgainst 61 = .ok (.ireturn, 1) := by decide +kernel
theorem d_Jg_reasonAgainst_62 : decode b_Jg_reasonAgainst 62 = .ok (.aload_n 0, 1) := by decide +kernel
theorem d_Jg_reasonAgainst_63 : decode b_Jg_reasonAgainst 63 = .ok (.aload_n 1, 1) := by decide +kernel
theorem d_Jg_reasonAgainst_64 : decode b_Jg_reasonAgainst 64 = .ok (.invokevirtual 39, 3) := by decide +kernel
theorem d_Jg_reasonAgainst_67 : decode b_Jg_reasonAgainst 67 = .ok (.ifCond .eq 6, 3) := by decide +kernel
theorem d_Jg_reasonAgainst_70 : decode b_Jg_reasonAgainst 70 = .ok (.bipush 6, 2) := by decide +kernel
theorem d_Jg_reasonAgainst_72 : decode b_Jg_reasonAgainst 72 = .ok (.ireturn, 1) := by decide +kernel
theorem d_Jg_reasonAgainst_73 : decode b_Jg_reasonAgainst 73 = .ok (.aload_n 0, 1) := by decide +kernel
theorem d_Jg_reasonAgainst_74 : decode b_Jg_reasonAgainst 74 = .ok (.aload_n 1, 1) := by decide +kernel
theorem d_Jg_reasonAgainst_75 : decode b_Jg_reasonAgainst 75 = .ok (.invokevirtual 42, 3) := by decide +kernel
theorem d_Jg_reasonAgainst_78 : decode b_Jg_reasonAgainst 78 = .ok (.ifCond .eq 8, 3) := by decide +kernel
theorem d_Jg_reasonAgainst_81 : decode b_Jg_reasonAgainst 81 = .ok (.bipush 7, 2) := by decide +kernel
theorem d_Jg_reasonAgainst_83 : decode b_Jg_reasonAgainst 83 = .ok (.goto 4, 3) := by decide +kernel
theorem d_Jg_reasonAgainst_86 : decode b_Jg_reasonAgainst 86 = .ok (.iconst 0, 1) := by decide +kernel
theorem d_Jg_reasonAgainst_87 : decode b_Jg_reasonAgainst 87 = .ok (.ireturn, 1) := by decide +kernel
theorem d_Jg_lacksTarget_0 : decode b_Jg_lacksTarget 0 = .ok (.aload_n 1, 1) := by decide +kernel
theorem d_Jg_lacksTarget_1 : decode b_Jg_lacksTarget 1 = .ok (.invokevirtual 45, 3) := by decide +kernel
theorem d_Jg_lacksTarget_4 : decode b_Jg_lacksTarget 4 = .ok (.ifCond .eq 29, 3) := by decide +kernel
theorem d_Jg_lacksTarget_7 : decode b_Jg_lacksTarget 7 = .ok (.aload_n 1, 1) := by decide +kernel
theorem d_Jg_lacksTarget_8 : decode b_Jg_lacksTarget 8 = .ok (.getfield 51, 3) := by decide +kernel
theorem d_Jg_lacksTarget_11 : decode b_Jg_lacksTarget 11 = .ok (.iload_n 2, 1) := by decide +kernel
theorem d_Jg_lacksTarget_12 : decode b_Jg_lacksTarget 12 = .ok (.if_icmp .le 17, 3) := by decide +kernel
theorem d_Jg_lacksTarget_15 : decode b_Jg_lacksTarget 15 = .ok (.aload_n 1, 1) := by decide +kernel
theorem d_Jg_lacksTarget_16 : decode b_Jg_lacksTarget 16 = .ok (.getfield 51, 3) := by decide +kernel
theorem d_Jg_lacksTarget_19 : decode b_Jg_lacksTarget 19 = .ok (.aload_n 0, 1) := by decide +kernel
theorem d_Jg_lacksTarget_20 : decode b_Jg_lacksTarget 20 = .ok (.getfield 9, 3) := by decide +kernel
theorem d_Jg_lacksTarget_23 : decode b_Jg_lacksTarget 23 = .ok (.invokevirtual 55, 3) := by decide +kernel
theorem d_Jg_lacksTarget_26 : decode b_Jg_lacksTarget 26 = .ok (.if_icmp .lt 7, 3) := by decide +kernel
theorem d_Jg_lacksTarget_29 : decode b_Jg_lacksTarget 29 = .ok (.iconst 1, 1) := by decide +kernel
theorem d_Jg_lacksTarget_30 : decode b_Jg_lacksTarget 30 = .ok (.goto 4, 3) := by decide +kernel
theorem d_Jg_lacksTarget_33 : decode b_Jg_lacksTarget 33 = .ok (.iconst 0, 1) := by decide +kernel
theorem d_Jg_lacksTarget_34 : decode b_Jg_lacksTarget 34 = .ok (.ireturn, 1) := by decide +kernel
theorem d_Jg_usesEmpty_0 : decode b_Jg_usesEmpty 0 = .ok (.aload_n 1, 1) := by decide +kernel
theorem d_Jg_usesEmpty_1 : decode b_Jg_usesEmpty 1 = .ok (.getfield 61, 3) := by decide +kernel
theorem d_Jg_usesEmpty_4 : decode b_Jg_usesEmpty 4 = .ok (.bipush 16, 2) := by decide +kernel
theorem d_Jg_usesEmpty_6 : decode b_Jg_usesEmpty 6 = .ok (.if_icmp .ne 58, 3) := by decide +kernel
theorem d_Jg_usesEmpty_9 : decode b_Jg_usesEmpty 9 = .ok (.aload_n 1, 1) := by decide +kernel
theorem d_Jg_usesEmpty_10 : decode b_Jg_usesEmpty 10 = .ok (.getfield 64, 3) := by decide +kernel
theorem d_Jg_usesEmpty_13 : decode b_Jg_usesEmpty 13 = .ok (.iconst 1, 1) := by decide +kernel
theorem d_Jg_usesEmpty_14 : decode b_Jg_usesEmpty 14 = .ok (.if_icmp .ne 14, 3) := by decide +kernel
theorem d_Jg_usesEmpty_17 : decode b_Jg_usesEmpty 17 = .ok (.aload_n 0, 1) := by decide +kernel
theorem d_Jg_usesEmpty_18 : decode b_Jg_usesEmpty 18 = .ok (.getfield 15, 3) := by decide +kernel
theorem d_Jg_usesEmpty_21 : decode b_Jg_usesEmpty 21 = .ok (.iconst 1, 1) := by decide +kernel
theorem d_Jg_usesEmpty_22 : decode b_Jg_usesEmpty 22 = .ok (.invokevirtual 67, 3) := by decide +kernel
theorem d_Jg_usesEmpty_25 : decode b_Jg_usesEmpty 25 = .ok (.ifCond .ne 33, 3) := by decide +kernel
theorem d_Jg_usesEmpty_28 : decode b_Jg_usesEmpty 28 = .ok (.aload_n 1, 1) := by decide +kernel
theorem d_Jg_usesEmpty_29 : decode b_Jg_usesEmpty 29 = .ok (.getfield 64, 3) := by decide +kernel
theorem d_Jg_usesEmpty_32 : decode b_Jg_usesEmpty 32 = .ok (.iconst 2, 1) := by decide +kernel
theorem d_Jg_usesEmpty_33 : decode b_Jg_usesEmpty 33 = .ok (.if_icmp .ne 29, 3) := by decide +kernel
theorem d_Jg_usesEmpty_36 : decode b_Jg_usesEmpty 36 = .ok (.aload_n 0, 1) := by decide +kernel
theorem d_Jg_usesEmpty_37 : decode b_Jg_usesEmpty 37 = .ok (.getfield 15, 3) := by decide +kernel
theorem d_Jg_usesEmpty_40 : decode b_Jg_usesEmpty 40 = .ok (.iconst 1, 1) := by decide +kernel
theorem d_Jg_usesEmpty_41 : decode b_Jg_usesEmpty 41 = .ok (.invokevirtual 67, 3) := by decide +kernel
theorem d_Jg_usesEmpty_44 : decode b_Jg_usesEmpty 44 = .ok (.ifCond .ne 14, 3) := by decide +kernel
theorem d_Jg_usesEmpty_47 : decode b_Jg_usesEmpty 47 = .ok (.aload_n 0, 1) := by decide +kernel
theorem d_Jg_usesEmpty_48 : decode b_Jg_usesEmpty 48 = .ok (.getfield 15, 3) := by decide +kernel
theorem d_Jg_usesEmpty_51 : decode b_Jg_usesEmpty 51 = .ok (.iconst 2, 1) := by decide +kernel
theorem d_Jg_usesEmpty_52 : decode b_Jg_usesEmpty 52 = .ok (.invokevirtual 67, 3) := by decide +kernel
theorem d_Jg_usesEmpty_55 : decode b_Jg_usesEmpty 55 = .ok (.ifCond .eq 7, 3) := by decide +kernel
theorem d_Jg_usesEmpty_58 : decode b_Jg_usesEmpty 58 = .ok (.iconst 1, 1) := by decide +kernel
theorem d_Jg_usesEmpty_59 : decode b_Jg_usesEmpty 59 = .ok (.goto 4, 3) := by decide +kernel
theorem d_Jg_usesEmpty_62 : decode b_Jg_usesEmpty 62 = .ok (.iconst 0, 1) := by decide +kernel
theorem d_Jg_usesEmpty_63 : decode b_Jg_usesEmpty 63 = .ok (.ireturn, 1) := by decide +kernel
theorem d_Jg_usesEmpty_64 : decode b_Jg_usesEmpty 64 = .ok (.aload_n 1, 1) := by decide +kernel
theorem d_Jg_usesEmpty_65 : decode b_Jg_usesEmpty 65 = .ok (.getfield 61, 3) := by decide +kernel
theorem d_Jg_usesEmpty_68 : decode b_Jg_usesEmpty 68 = .ok (.bipush 17, 2) := by decide +kernel
theorem d_Jg_usesEmpty_70 : decode b_Jg_usesEmpty 70 = .ok (.if_icmp .ne 12, 3) := by decide +kernel
theorem d_Jg_usesEmpty_73 : decode b_Jg_usesEmpty 73 = .ok (.aload_n 0, 1) := by decide +kernel
theorem d_Jg_usesEmpty_74 : decode b_Jg_usesEmpty 74 = .ok (.getfield 15, 3) := by decide +kernel
theorem d_Jg_usesEmpty_77 : decode b_Jg_usesEmpty 77 = .ok (.iconst 0, 1) := by decide +kernel
theorem d_Jg_usesEmpty_78 : decode b_Jg_usesEmpty 78 = .ok (.invokevirtual 67, 3) := by decide +kernel
theorem d_Jg_usesEmpty_81 : decode b_Jg_usesEmpty 81 = .ok (.ireturn, 1) := by decide +kernel
theorem d_Jg_usesEmpty_82 : decode b_Jg_usesEmpty 82 = .ok (.aload_n 1, 1) := by decide +kernel
theorem d_Jg_usesEmpty_83 : decode b_Jg_usesEmpty 83 = .ok (.invokevirtual 73, 3) := by decide +kernel
theorem d_Jg_usesEmpty_86 : decode b_Jg_usesEmpty 86 = .ok (.ifCond .eq 17, 3) := by decide +kernel
theorem d_Jg_usesEmpty_89 : decode b_Jg_usesEmpty 89 = .ok (.aload_n 0, 1) := by decide +kernel
theorem d_Jg_usesEmpty_90 : decode b_Jg_usesEmpty 90 = .ok (.getfield 15, 3) := by decide +kernel
theorem d_Jg_usesEmpty_93 : decode b_Jg_usesEmpty 93 = .ok (.aload_n 1, 1) := by decide +kernel
theorem d_Jg_usesEmpty_94 : decode b_Jg_usesEmpty 94 = .ok (.getfield 76, 3) := by decide +kernel
theorem d_Jg_usesEmpty_97 : decode b_Jg_usesEmpty 97 = .ok (.invokevirtual 67, 3) := by decide +kernel
theorem d_Jg_usesEmpty_100 : decode b_Jg_usesEmpty 100 = .ok (.ifCond .ne 24, 3) := by decide +kernel
theorem d_Jg_usesEmpty_103 : decode b_Jg_usesEmpty 103 = .ok (.aload_n 1, 1) := by decide +kernel
theorem d_Jg_usesEmpty_104 : decode b_Jg_usesEmpty 104 = .ok (.invokevirtual 79, 3) := by decide +kernel
theorem d_Jg_usesEmpty_107 : decode b_Jg_usesEmpty 107 = .ok (.ifCond .eq 21, 3) := by decide +kernel
theorem d_Jg_usesEmpty_110 : decode b_Jg_usesEmpty 110 = .ok (.aload_n 0, 1) := by decide +kernel
theorem d_Jg_usesEmpty_111 : decode b_Jg_usesEmpty 111 = .ok (.getfield 15, 3) := by decide +kernel
theorem d_Jg_usesEmpty_114 : decode b_Jg_usesEmpty 114 = .ok (.aload_n 1, 1) := by decide +kernel
theorem d_Jg_usesEmpty_115 : decode b_Jg_usesEmpty 115 = .ok (.getfield 82, 3) := by decide +kernel
theorem d_Jg_usesEmpty_118 : decode b_Jg_usesEmpty 118 = .ok (.invokevirtual 67, 3) := by decide +kernel
theorem d_Jg_usesEmpty_121 : decode b_Jg_usesEmpty 121 = .ok (.ifCond .eq 7, 3) := by decide +kernel
theorem d_Jg_usesEmpty_124 : decode b_Jg_usesEmpty 124 = .ok (.iconst 1, 1) := by decide +kernel
theorem d_Jg_usesEmpty_125 : decode b_Jg_usesEmpty 125 = .ok (.goto 4, 3) := by decide +kernel
theorem d_Jg_usesEmpty_128 : decode b_Jg_usesEmpty 128 = .ok (.iconst 0, 1) := by decide +kernel
theorem d_Jg_usesEmpty_129 : decode b_Jg_usesEmpty 129 = .ok (.ireturn, 1) := by decide +kernel
theorem d_Jg_hasBadNumber_0 : decode b_Jg_hasBadNumber 0 = .ok (.aload_n 0, 1) := by decide +kernel
theorem d_Jg_hasBadNumber_1 : decode b_Jg_hasBadNumber 1 = .ok (.getfield 61, 3) := by decide +kernel
theorem d_Jg_hasBadNumber_4 : decode b_Jg_hasBadNumber 4 = .ok (.lookupswitch 92 #[(7, 36), (8, 58), (16, 71)], 36) := by decide +kernel
theorem d_Jg_hasBadNumber_40 : decode b_Jg_hasBadNumber 40 = .ok (.aload_n 0, 1) := by decide +kernel
theorem d_Jg_hasBadNumber_41 : decode b_Jg_hasBadNumber 41 = .ok (.getfield 64, 3) := by decide +kernel
theorem d_Jg_hasBadNumber_44 : decode b_Jg_hasBadNumber 44 = .ok (.ifCond .lt 12, 3) := by decide +kernel
theorem d_Jg_hasBadNumber_47 : decode b_Jg_hasBadNumber 47 = .ok (.aload_n 0, 1) := by decide +kernel
theorem d_Jg_hasBadNumber_48 : decode b_Jg_hasBadNumber 48 = .ok (.getfield 64, 3) := by decide +kernel
theorem d_Jg_hasBadNumber_51 : decode b_Jg_hasBadNumber 51 = .ok (.bipush 63, 2) := by decide +kernel
theorem d_Jg_hasBadNumber_53 : decode b_Jg_hasBadNumber 53 = .ok (.if_icmp .le 7, 3) := by decide +kernel
theorem d_Jg_hasBadNumber_56 : decode b_Jg_hasBadNumber 56 = .ok (.iconst 1, 1) := by decide +kernel
theorem d_Jg_hasBadNumber_57 : decode b_Jg_hasBadNumber 57 = .ok (.goto 4, 3) := by decide +kernel
theorem d_Jg_hasBadNumber_60 : decode b_Jg_hasBadNumber 60 = .ok (.iconst 0, 1) := by decide +kernel
theorem d_Jg_hasBadNumber_61 : decode b_Jg_hasBadNumber 61 = .ok (.ireturn, 1) := by decide +kernel
theorem d_Jg_hasBadNumber_62 : decode b_Jg_hasBadNumber 62 = .ok (.aload_n 0, 1) := by decide +kernel
theorem d_Jg_hasBadNumber_63 : decode b_Jg_hasBadNumber 63 = .ok (.getfield 64, 3) := by decide +kernel
theorem d_Jg_hasBadNumber_66 : decode b_Jg_hasBadNumber 66 = .ok (.ifCond .ne 7, 3) := by decide +kernel
theorem d_Jg_hasBadNumber_69 : decode b_Jg_hasBadNumber 69 = .ok (.iconst 1, 1) := by decide +kernel
theorem d_Jg_hasBadNumber_70 : decode b_Jg_hasBadNumber 70 = .ok (.goto 4, 3) := by decide +kernel
theorem d_Jg_hasBadNumber_73 : decode b_Jg_hasBadNumber 73 = .ok (.iconst 0, 1) := by decide +kernel
theorem d_Jg_hasBadNumber_74 : decode b_Jg_hasBadNumber 74 = .ok (.ireturn, 1) := by decide +kernel
theorem d_Jg_hasBadNumber_75 : decode b_Jg_hasBadNumber 75 = .ok (.aload_n 0, 1) := by decide +kernel
theorem d_Jg_hasBadNumber_76 : decode b_Jg_hasBadNumber 76 = .ok (.getfield 64, 3) := by decide +kernel
theorem d_Jg_hasBadNumber_79 : decode b_Jg_hasBadNumber 79 = .ok (.ifCond .lt 11, 3) := by decide +kernel
theorem d_Jg_hasBadNumber_82 : decode b_Jg_hasBadNumber 82 = .ok (.aload_n 0, 1) := by decide +kernel
theorem d_Jg_hasBadNumber_83 : decode b_Jg_hasBadNumber 83 = .ok (.getfield 64, 3) := by decide +kernel
theorem d_Jg_hasBadNumber_86 : decode b_Jg_hasBadNumber 86 = .ok (.iconst 2, 1) := by decide +kernel
theorem d_Jg_hasBadNumber_87 : decode b_Jg_hasBadNumber 87 = .ok (.if_icmp .le 7, 3) := by decide +kernel
theorem d_Jg_hasBadNumber_90 : decode b_Jg_hasBadNumber 90 = .ok (.iconst 1, 1) := by decide +kernel
theorem d_Jg_hasBadNumber_91 : decode b_Jg_hasBadNumber 91 = .ok (.goto 4, 3) := by decide +kernel
theorem d_Jg_hasBadNumber_94 : decode b_Jg_hasBadNumber 94 = .ok (.iconst 0, 1) := by decide +kernel
theorem d_Jg_hasBadNumber_95 : decode b_Jg_hasBadNumber 95 = .ok (.ireturn, 1) := by decide +kernel
theorem d_Jg_hasBadNumber_96 : decode b_Jg_hasBadNumber 96 = .ok (.iconst 0, 1) := by decide +kernel
theorem d_Jg_hasBadNumber_97 : decode b_Jg_hasBadNumber 97 = .ok (.ireturn, 1) := by decide +kernel
theorem d_Jg_hasWrongKind_0 : decode b_Jg_hasWrongKind 0 = .ok (.aload_n 1, 1) := by decide +kernel
theorem d_Jg_hasWrongKind_1 : decode b_Jg_hasWrongKind 1 = .ok (.getfield 61, 3) := by decide +kernel
theorem d_Jg_hasWrongKind_4 : decode b_Jg_hasWrongKind 4 = .ok (.tableswitch 211 1 17 #[84, 86, 103, 211, 211, 211, 211, 211, 211, 134, 211, 211, 211, 162, 182, 188, 194], 84) := by decide +kernel
theorem d_Jg_hasWrongKind_88 : decode b_Jg_hasWrongKind 88 = .ok (.iconst 0, 1) := by decide +kernel
theorem d_Jg_hasWrongKind_89 : decode b_Jg_hasWrongKind 89 = .ok (.ireturn, 1) := by decide +kernel
theorem d_Jg_hasWrongKind_90 : decode b_Jg_hasWrongKind 90 = .ok (.aload_n 0, 1) := by decide +kernel
theorem d_Jg_hasWrongKind_91 : decode b_Jg_hasWrongKind 91 = .ok (.aload_n 1, 1) := by decide +kernel
theorem d_Jg_hasWrongKind_92 : decode b_Jg_hasWrongKind 92 = .ok (.getfield 76, 3) := by decide +kernel
theorem d_Jg_hasWrongKind_95 : decode b_Jg_hasWrongKind 95 = .ok (.invokevirtual 85, 3) := by decide +kernel
theorem d_Jg_hasWrongKind_98 : decode b_Jg_hasWrongKind 98 = .ok (.ifCond .ne 7, 3) := by decide +kernel
theorem d_Jg_hasWrongKind_101 : decode b_Jg_hasWrongKind 101 = .ok (.iconst 1, 1) := by decide +kernel
theorem d_Jg_hasWrongKind_102 : decode b_Jg_hasWrongKind 102 = .ok (.goto 4, 3) := by decide +kernel
theorem d_Jg_hasWrongKind_105 : decode b_Jg_hasWrongKind 105 = .ok (.iconst 0, 1) := by decide +kernel
theorem d_Jg_hasWrongKind_106 : decode b_Jg_hasWrongKind 106 = .ok (.ireturn, 1) := by decide +kernel
theorem d_Jg_hasWrongKind_107 : decode b_Jg_hasWrongKind 107 = .ok (.aload_n 0, 1) := by decide +kernel
theorem d_Jg_hasWrongKind_108 : decode b_Jg_hasWrongKind 108 = .ok (.aload_n 1, 1) := by decide +kernel
theorem d_Jg_hasWrongKind_109 : decode b_Jg_hasWrongKind 109 = .ok (.getfield 76, 3) := by decide +kernel
theorem d_Jg_hasWrongKind_112 : decode b_Jg_hasWrongKind 112 = .ok (.invokevirtual 85, 3) := by decide +kernel
theorem d_Jg_hasWrongKind_115 : decode b_Jg_hasWrongKind 115 = .ok (.ifCond .eq 17, 3) := by decide +kernel
theorem d_Jg_hasWrongKind_118 : decode b_Jg_hasWrongKind 118 = .ok (.aload_n 0, 1) := by decide +kernel
theorem d_Jg_hasWrongKind_119 : decode b_Jg_hasWrongKind 119 = .ok (.getfield 15, 3) := by decide +kernel
theorem d_Jg_hasWrongKind_122 : decode b_Jg_hasWrongKind 122 = .ok (.aload_n 1, 1) := by decide +kernel
theorem d_Jg_hasWrongKind_123 : decode b_Jg_hasWrongKind 123 = .ok (.getfield 82, 3) := by decide +kernel
theorem d_Jg_hasWrongKind_126 : decode b_Jg_hasWrongKind 126 = .ok (.invokevirtual 88, 3) := by decide +kernel
theorem d_Jg_hasWrongKind_129 : decode b_Jg_hasWrongKind 129 = .ok (.ifCond .ne 7, 3) := by decide +kernel
theorem d_Jg_hasWrongKind_132 : decode b_Jg_hasWrongKind 132 = .ok (.iconst 1, 1) := by decide +kernel
theorem d_Jg_hasWrongKind_133 : decode b_Jg_hasWrongKind 133 = .ok (.goto 4, 3) := by decide +kernel
theorem d_Jg_hasWrongKind_136 : decode b_Jg_hasWrongKind 136 = .ok (.iconst 0, 1) := by decide +kernel
theorem d_Jg_hasWrongKind_137 : decode b_Jg_hasWrongKind 137 = .ok (.ireturn, 1) := by decide +kernel
theorem d_Jg_hasWrongKind_138 : decode b_Jg_hasWrongKind 138 = .ok (.aload_n 0, 1) := by decide +kernel
theorem d_Jg_hasWrongKind_139 : decode b_Jg_hasWrongKind 139 = .ok (.getfield 15, 3) := by decide +kernel
theorem d_Jg_hasWrongKind_142 : decode b_Jg_hasWrongKind 142 = .ok (.aload_n 1, 1) := by decide +kernel
theorem d_Jg_hasWrongKind_143 : decode b_Jg_hasWrongKind 143 = .ok (.getfield 76, 3) := by decide +kernel
theorem d_Jg_hasWrongKind_146 : decode b_Jg_hasWrongKind 146 = .ok (.invokevirtual 88, 3) := by decide +kernel
theorem d_Jg_hasWrongKind_149 : decode b_Jg_hasWrongKind 149 = .ok (.ifCond .ne 15, 3) := by decide +kernel
theorem d_Jg_hasWrongKind_152 : decode b_Jg_hasWrongKind 152 = .ok (.aload_n 0, 1) := by decide +kernel
theorem d_Jg_hasWrongKind_153 : decode b_Jg_hasWrongKind 153 = .ok (.aload_n 1, 1) := by decide +kernel
theorem d_Jg_hasWrongKind_154 : decode b_Jg_hasWrongKind 154 = .ok (.invokevirtual 91, 3) := by decide +kernel
theorem d_Jg_hasWrongKind_157 : decode b_Jg_hasWrongKind 157 = .ok (.ifCond .ne 7, 3) := by decide +kernel
theorem d_Jg_hasWrongKind_160 : decode b_Jg_hasWrongKind 160 = .ok (.iconst 1, 1) := by decide +kernel
theorem d_Jg_hasWrongKind_161 : decode b_Jg_hasWrongKind 161 = .ok (.goto 4, 3) := by decide +kernel
theorem d_Jg_hasWrongKind_164 : decode b_Jg_hasWrongKind 164 = .ok (.iconst 0, 1) := by decide +kernel
theorem d_Jg_hasWrongKind_165 : decode b_Jg_hasWrongKind 165 = .ok (.ireturn, 1) := by decide +kernel
theorem d_Jg_hasWrongKind_166 : decode b_Jg_hasWrongKind 166 = .ok (.aload_n 0, 1) := by decide +kernel
theorem d_Jg_hasWrongKind_167 : decode b_Jg_hasWrongKind 167 = .ok (.getfield 15, 3) := by decide +kernel
theorem d_Jg_hasWrongKind_170 : decode b_Jg_hasWrongKind 170 = .ok (.aload_n 1, 1) := by decide +kernel
theorem d_Jg_hasWrongKind_171 : decode b_Jg_hasWrongKind 171 = .ok (.getfield 82, 3) := by decide +kernel
theorem d_Jg_hasWrongKind_174 : decode b_Jg_hasWrongKind 174 = .ok (.invokevirtual 94, 3) := by decide +kernel
theorem d_Jg_hasWrongKind_177 : decode b_Jg_hasWrongKind 177 = .ok (.ifCond .ne 7, 3) := by decide +kernel
theorem d_Jg_hasWrongKind_180 : decode b_Jg_hasWrongKind 180 = .ok (.iconst 1, 1) := by decide +kernel
theorem d_Jg_hasWrongKind_181 : decode b_Jg_hasWrongKind 181 = .ok (.goto 4, 3) := by decide +kernel
theorem d_Jg_hasWrongKind_184 : decode b_Jg_hasWrongKind 184 = .ok (.iconst 0, 1) := by decide +kernel
theorem d_Jg_hasWrongKind_185 : decode b_Jg_hasWrongKind 185 = .ok (.ireturn, 1) := by decide +kernel
theorem d_Jg_hasWrongKind_186 : decode b_Jg_hasWrongKind 186 = .ok (.aload_n 0, 1) := by decide +kernel
theorem d_Jg_hasWrongKind_187 : decode b_Jg_hasWrongKind 187 = .ok (.aload_n 1, 1) := by decide +kernel
theorem d_Jg_hasWrongKind_188 : decode b_Jg_hasWrongKind 188 = .ok (.invokevirtual 97, 3) := by decide +kernel
theorem d_Jg_hasWrongKind_191 : decode b_Jg_hasWrongKind 191 = .ok (.ireturn, 1) := by decide +kernel
theorem d_Jg_hasWrongKind_192 : decode b_Jg_hasWrongKind 192 = .ok (.aload_n 0, 1) := by decide +kernel
theorem d_Jg_hasWrongKind_193 : decode b_Jg_hasWrongKind 193 = .ok (.aload_n 1, 1) := by decide +kernel
theorem d_Jg_hasWrongKind_194 : decode b_Jg_hasWrongKind 194 = .ok (.invokevirtual 100, 3) := by decide +kernel
theorem d_Jg_hasWrongKind_197 : decode b_Jg_hasWrongKind 197 = .ok (.ireturn, 1) := by decide +kernel
theorem d_Jg_hasWrongKind_198 : decode b_Jg_hasWrongKind 198 = .ok (.aload_n 0, 1) := by decide +kernel
theorem d_Jg_hasWrongKind_199 : decode b_Jg_hasWrongKind 199 = .ok (.getfield 15, 3) := by decide +kernel
theorem d_Jg_hasWrongKind_202 : decode b_Jg_hasWrongKind 202 = .ok (.iconst 0, 1) := by decide +kernel
theorem d_Jg_hasWrongKind_203 : decode b_Jg_hasWrongKind 203 = .ok (.invokevirtual 88, 3) := by decide +kernel
theorem d_Jg_hasWrongKind_206 : decode b_Jg_hasWrongKind 206 = .ok (.ifCond .ne 7, 3) := by decide +kernel
theorem d_Jg_hasWrongKind_209 : decode b_Jg_hasWrongKind 209 = .ok (.iconst 1, 1) := by decide +kernel
theorem d_Jg_hasWrongKind_210 : decode b_Jg_hasWrongKind 210 = .ok (.goto 4, 3) := by decide +kernel
theorem d_Jg_hasWrongKind_213 : decode b_Jg_hasWrongKind 213 = .ok (.iconst 0, 1) := by decide +kernel
theorem d_Jg_hasWrongKind_214 : decode b_Jg_hasWrongKind 214 = .ok (.ireturn, 1) := by decide +kernel
theorem d_Jg_hasWrongKind_215 : decode b_Jg_hasWrongKind 215 = .ok (.aload_n 1, 1) := by decide +kernel
theorem d_Jg_hasWrongKind_216 : decode b_Jg_hasWrongKind 216 = .ok (.invokevirtual 73, 3) := by decide +kernel
theorem d_Jg_hasWrongKind_219 : decode b_Jg_hasWrongKind 219 = .ok (.ifCond .eq 17, 3) := by decide +kernel
theorem d_Jg_hasWrongKind_222 : decode b_Jg_hasWrongKind 222 = .ok (.aload_n 0, 1) := by decide +kernel
theorem d_Jg_hasWrongKind_223 : decode b_Jg_hasWrongKind 223 = .ok (.getfield 15, 3) := by decide +kernel
theorem d_Jg_hasWrongKind_226 : decode b_Jg_hasWrongKind 226 = .ok (.aload_n 1, 1) := by decide +kernel
theorem d_Jg_hasWrongKind_227 : decode b_Jg_hasWrongKind 227 = .ok (.getfield 76, 3) := by decide +kernel
theorem d_Jg_hasWrongKind_230 : decode b_Jg_hasWrongKind 230 = .ok (.invokevirtual 88, 3) := by decide +kernel
theorem d_Jg_hasWrongKind_233 : decode b_Jg_hasWrongKind 233 = .ok (.ifCond .eq 24, 3) := by decide +kernel
theorem d_Jg_hasWrongKind_236 : decode b_Jg_hasWrongKind 236 = .ok (.aload_n 1, 1) := by decide +kernel
theorem d_Jg_hasWrongKind_237 : decode b_Jg_hasWrongKind 237 = .ok (.invokevirtual 79, 3) := by decide +kernel
theorem d_Jg_hasWrongKind_240 : decode b_Jg_hasWrongKind 240 = .ok (.ifCond .eq 21, 3) := by decide +kernel
theorem d_Jg_hasWrongKind_243 : decode b_Jg_hasWrongKind 243 = .ok (.aload_n 0, 1) := by decide +kernel
theorem d_Jg_hasWrongKind_244 : decode b_Jg_hasWrongKind 244 = .ok (.getfield 15, 3) := by decide +kernel
theorem d_Jg_hasWrongKind_247 : decode b_Jg_hasWrongKind 247 = .ok (.aload_n 1, 1) := by decide +kernel
theorem d_Jg_hasWrongKind_248 : decode b_Jg_hasWrongKind 248 = .ok (.getfield 82, 3) := by decide +kernel
theorem d_Jg_hasWrongKind_251 : decode b_Jg_hasWrongKind 251 = .ok (.invokevirtual 88, 3) := by decide +kernel
theorem d_Jg_hasWrongKind_254 : decode b_Jg_hasWrongKind 254 = .ok (.ifCond .ne 7, 3) := by decide +kernel
theorem d_Jg_hasWrongKind_257 : decode b_Jg_hasWrongKind 257 = .ok (.iconst 1, 1) := by decide +kernel
theorem d_Jg_hasWrongKind_258 : decode b_Jg_hasWrongKind 258 = .ok (.goto 4, 3) := by decide +kernel
theorem d_Jg_hasWrongKind_261 : decode b_Jg_hasWrongKind 261 = .ok (.iconst 0, 1) := by decide +kernel
theorem d_Jg_hasWrongKind_262 : decode b_Jg_hasWrongKind 262 = .ok (.ireturn, 1) := by decide +kernel
theorem d_Jg_isRangeOrPlace_0 : decode b_Jg_isRangeOrPlace 0 = .ok (.aload_n 0, 1) := by decide +kernel
theorem d_Jg_isRangeOrPlace_1 : decode b_Jg_isRangeOrPlace 1 = .ok (.getfield 15, 3) := by decide +kernel
theorem d_Jg_isRangeOrPlace_4 : decode b_Jg_isRangeOrPlace 4 = .ok (.iload_n 1, 1) := by decide +kernel
theorem d_Jg_isRangeOrPlace_5 : decode b_Jg_isRangeOrPlace 5 = .ok (.invokevirtual 88, 3) := by decide +kernel
theorem d_Jg_isRangeOrPlace_8 : decode b_Jg_isRangeOrPlace 8 = .ok (.ifCond .ne 14, 3) := by decide +kernel
theorem d_Jg_isRangeOrPlace_11 : decode b_Jg_isRangeOrPlace 11 = .ok (.aload_n 0, 1) := by decide +kernel
theorem d_Jg_isRangeOrPlace_12 : decode b_Jg_isRangeOrPlace 12 = .ok (.getfield 15, 3) := by decide +kernel
theorem d_Jg_isRangeOrPlace_15 : decode b_Jg_isRangeOrPlace 15 = .ok (.iload_n 1, 1) := by decide +kernel
theorem d_Jg_isRangeOrPlace_16 : decode b_Jg_isRangeOrPlace 16 = .ok (.invokevirtual 94, 3) := by decide +kernel
theorem d_Jg_isRangeOrPlace_19 : decode b_Jg_isRangeOrPlace 19 = .ok (.ifCond .eq 7, 3) := by decide +kernel
theorem d_Jg_isRangeOrPlace_22 : decode b_Jg_isRangeOrPlace 22 = .ok (.iconst 1, 1) := by decide +kernel
theorem d_Jg_isRangeOrPlace_23 : decode b_Jg_isRangeOrPlace 23 = .ok (.goto 4, 3) := by decide +kernel
theorem d_Jg_isRangeOrPlace_26 : decode b_Jg_isRangeOrPlace 26 = .ok (.iconst 0, 1) := by decide +kernel
theorem d_Jg_isRangeOrPlace_27 : decode b_Jg_isRangeOrPlace 27 = .ok (.ireturn, 1) := by decide +kernel
theorem d_Jg_isMaybeMissing_0 : decode b_Jg_isMaybeMissing 0 = .ok (.aload_n 0, 1) := by decide +kernel
theorem d_Jg_isMaybeMissing_1 : decode b_Jg_isMaybeMissing 1 = .ok (.getfield 15, 3) := by decide +kernel
theorem d_Jg_isMaybeMissing_4 : decode b_Jg_isMaybeMissing 4 = .ok (.aload_n 1, 1) := by decide +kernel
theorem d_Jg_isMaybeMissing_5 : decode b_Jg_isMaybeMissing 5 = .ok (.getfield 76, 3) := by decide +kernel
theorem d_Jg_isMaybeMissing_8 : decode b_Jg_isMaybeMissing 8 = .ok (.invokevirtual 103, 3) := by decide +kernel
theorem d_Jg_isMaybeMissing_11 : decode b_Jg_isMaybeMissing 11 = .ok (.iconst 4, 1) := by decide +kernel
theorem d_Jg_isMaybeMissing_12 : decode b_Jg_isMaybeMissing 12 = .ok (.if_icmp .ne 14, 3) := by decide +kernel
theorem d_Jg_isMaybeMissing_15 : decode b_Jg_isMaybeMissing 15 = .ok (.aload_n 1, 1) := by decide +kernel
theorem d_Jg_isMaybeMissing_16 : decode b_Jg_isMaybeMissing 16 = .ok (.getfield 64, 3) := by decide +kernel
theorem d_Jg_isMaybeMissing_19 : decode b_Jg_isMaybeMissing 19 = .ok (.ifCond .ne 7, 3) := by decide +kernel
theorem d_Jg_isMaybeMissing_22 : decode b_Jg_isMaybeMissing 22 = .ok (.iconst 1, 1) := by decide +kernel
theorem d_Jg_isMaybeMissing_23 : decode b_Jg_isMaybeMissing 23 = .ok (.goto 4, 3) := by decide +kernel
theorem d_Jg_isMaybeMissing_26 : decode b_Jg_isMaybeMissing 26 = .ok (.iconst 0, 1) := by decide +kernel
theorem d_Jg_isMaybeMissing_27 : decode b_Jg_isMaybeMissing 27 = .ok (.ireturn, 1) := by decide +kernel
theorem d_Jg_callsWithWrongKind_0 : decode b_Jg_callsWithWrongKind 0 = .ok (.aload_n 1, 1) := by decide +kernel
theorem d_Jg_callsWithWrongKind_1 : decode b_Jg_callsWithWrongKind 1 = .ok (.getfield 64, 3) := by decide +kernel
theorem d_Jg_callsWithWrongKind_4 : decode b_Jg_callsWithWrongKind 4 = .ok (.iconst 1, 1) := by decide +kernel
theorem d_Jg_callsWithWrongKind_5 : decode b_Jg_callsWithWrongKind 5 = .ok (.if_icmp .ne 14, 3) := by decide +kernel
theorem d_Jg_callsWithWrongKind_8 : decode b_Jg_callsWithWrongKind 8 = .ok (.aload_n 0, 1) := by decide +kernel
theorem d_Jg_callsWithWrongKind_9 : decode b_Jg_callsWithWrongKind 9 = .ok (.getfield 15, 3) := by decide +kernel
theorem d_Jg_callsWithWrongKind_12 : decode b_Jg_callsWithWrongKind 12 = .ok (.iconst 1, 1) := by decide +kernel
theorem d_Jg_callsWithWrongKind_13 : decode b_Jg_callsWithWrongKind 13 = .ok (.invokevirtual 88, 3) := by decide +kernel
theorem d_Jg_callsWithWrongKind_16 : decode b_Jg_callsWithWrongKind 16 = .ok (.ifCond .eq 33, 3) := by decide +kernel
theorem d_Jg_callsWithWrongKind_19 : decode b_Jg_callsWithWrongKind 19 = .ok (.aload_n 1, 1) := by decide +kernel
theorem d_Jg_callsWithWrongKind_20 : decode b_Jg_callsWithWrongKind 20 = .ok (.getfield 64, 3) := by decide +kernel
theorem d_Jg_callsWithWrongKind_23 : decode b_Jg_callsWithWrongKind 23 = .ok (.iconst 2, 1) := by decide +kernel
theorem d_Jg_callsWithWrongKind_24 : decode b_Jg_callsWithWrongKind 24 = .ok (.if_icmp .ne 29, 3) := by decide +kernel
theorem d_Jg_callsWithWrongKind_27 : decode b_Jg_callsWithWrongKind 27 = .ok (.aload_n 0, 1) := by decide +kernel
theorem d_Jg_callsWithWrongKind_28 : decode b_Jg_callsWithWrongKind 28 = .ok (.getfield 15, 3) := by decide +kernel
theorem d_Jg_callsWithWrongKind_31 : decode b_Jg_callsWithWrongKind 31 = .ok (.iconst 1, 1) := by decide +kernel
theorem d_Jg_callsWithWrongKind_32 : decode b_Jg_callsWithWrongKind 32 = .ok (.invokevirtual 88, 3) := by decide +kernel
theorem d_Jg_callsWithWrongKind_35 : decode b_Jg_callsWithWrongKind 35 = .ok (.ifCond .eq 14, 3) := by decide +kernel
theorem d_Jg_callsWithWrongKind_38 : decode b_Jg_callsWithWrongKind 38 = .ok (.aload_n 0, 1) := by decide +kernel
theorem d_Jg_callsWithWrongKind_39 : decode b_Jg_callsWithWrongKind 39 = .ok (.getfield 15, 3) := by decide +kernel
theorem d_Jg_callsWithWrongKind_42 : decode b_Jg_callsWithWrongKind 42 = .ok (.iconst 2, 1) := by decide +kernel
theorem d_Jg_callsWithWrongKind_43 : decode b_Jg_callsWithWrongKind 43 = .ok (.invokevirtual 88, 3) := by decide +kernel
theorem d_Jg_callsWithWrongKind_46 : decode b_Jg_callsWithWrongKind 46 = .ok (.ifCond .ne 7, 3) := by decide +kernel
theorem d_Jg_callsWithWrongKind_49 : decode b_Jg_callsWithWrongKind 49 = .ok (.iconst 1, 1) := by decide +kernel
theorem d_Jg_callsWithWrongKind_50 : decode b_Jg_callsWithWrongKind 50 = .ok (.goto 4, 3) := by decide +kernel
theorem d_Jg_callsWithWrongKind_53 : decode b_Jg_callsWithWrongKind 53 = .ok (.iconst 0, 1) := by decide +kernel
theorem d_Jg_callsWithWrongKind_54 : decode b_Jg_callsWithWrongKind 54 = .ok (.ireturn, 1) := by decide +kernel
theorem d_Jg_storesWrongKind_0 : decode b_Jg_storesWrongKind 0 = .ok (.aload_n 0, 1) := by decide +kernel
theorem d_Jg_storesWrongKind_1 : decode b_Jg_storesWrongKind 1 = .ok (.getfield 15, 3) := by decide +kernel
theorem d_Jg_storesWrongKind_4 : decode b_Jg_storesWrongKind 4 = .ok (.aload_n 1, 1) := by decide +kernel
theorem d_Jg_storesWrongKind_5 : decode b_Jg_storesWrongKind 5 = .ok (.getfield 76, 3) := by decide +kernel
theorem d_Jg_storesWrongKind_8 : decode b_Jg_storesWrongKind 8 = .ok (.invokevirtual 94, 3) := by decide +kernel
theorem d_Jg_storesWrongKind_11 : decode b_Jg_storesWrongKind 11 = .ok (.ifCond .ne 5, 3) := by decide +kernel
theorem d_Jg_storesWrongKind_14 : decode b_Jg_storesWrongKind 14 = .ok (.iconst 1, 1) := by decide +kernel
theorem d_Jg_storesWrongKind_15 : decode b_Jg_storesWrongKind 15 = .ok (.ireturn, 1) := by decide +kernel
theorem d_Jg_storesWrongKind_16 : decode b_Jg_storesWrongKind 16 = .ok (.aload_n 0, 1) := by decide +kernel
theorem d_Jg_storesWrongKind_17 : decode b_Jg_storesWrongKind 17 = .ok (.aload_n 1, 1) := by decide +kernel
theorem d_Jg_storesWrongKind_18 : decode b_Jg_storesWrongKind 18 = .ok (.getfield 76, 3) := by decide +kernel
theorem d_Jg_storesWrongKind_21 : decode b_Jg_storesWrongKind 21 = .ok (.invokevirtual 107, 3) := by decide +kernel
theorem d_Jg_storesWrongKind_24 : decode b_Jg_storesWrongKind 24 = .ok (.ifCond .ne 21, 3) := by decide +kernel
theorem d_Jg_storesWrongKind_27 : decode b_Jg_storesWrongKind 27 = .ok (.aload_n 0, 1) := by decide +kernel
theorem d_Jg_storesWrongKind_28 : decode b_Jg_storesWrongKind 28 = .ok (.getfield 15, 3) := by decide +kernel
theorem d_Jg_storesWrongKind_31 : decode b_Jg_storesWrongKind 31 = .ok (.aload_n 1, 1) := by decide +kernel
theorem d_Jg_storesWrongKind_32 : decode b_Jg_storesWrongKind 32 = .ok (.getfield 82, 3) := by decide +kernel
theorem d_Jg_storesWrongKind_35 : decode b_Jg_storesWrongKind 35 = .ok (.invokevirtual 88, 3) := by decide +kernel
theorem d_Jg_storesWrongKind_38 : decode b_Jg_storesWrongKind 38 = .ok (.ifCond .ne 7, 3) := by decide +kernel
theorem d_Jg_storesWrongKind_41 : decode b_Jg_storesWrongKind 41 = .ok (.iconst 1, 1) := by decide +kernel
theorem d_Jg_storesWrongKind_42 : decode b_Jg_storesWrongKind 42 = .ok (.goto 4, 3) := by decide +kernel
theorem d_Jg_storesWrongKind_45 : decode b_Jg_storesWrongKind 45 = .ok (.iconst 0, 1) := by decide +kernel
theorem d_Jg_storesWrongKind_46 : decode b_Jg_storesWrongKind 46 = .ok (.ireturn, 1) := by decide +kernel
theorem d_Jg_isOneCellOfFrame_0 : decode b_Jg_isOneCellOfFrame 0 = .ok (.aload_n 0, 1) := by decide +kernel
theorem d_Jg_isOneCellOfFrame_1 : decode b_Jg_isOneCellOfFrame 1 = .ok (.getfield 15, 3) := by decide +kernel
theorem d_Jg_isOneCellOfFrame_4 : decode b_Jg_isOneCellOfFrame 4 = .ok (.iload_n 1, 1) := by decide +kernel
theorem d_Jg_isOneCellOfFrame_5 : decode b_Jg_isOneCellOfFrame 5 = .ok (.invokevirtual 103, 3) := by decide +kernel
theorem d_Jg_isOneCellOfFrame_8 : decode b_Jg_isOneCellOfFrame 8 = .ok (.iconst 2, 1) := by decide +kernel
theorem d_Jg_isOneCellOfFrame_9 : decode b_Jg_isOneCellOfFrame 9 = .ok (.if_icmp .ne 27, 3) := by decide +kernel
theorem d_Jg_isOneCellOfFrame_12 : decode b_Jg_isOneCellOfFrame 12 = .ok (.aload_n 0, 1) := by decide +kernel
theorem d_Jg_isOneCellOfFrame_13 : decode b_Jg_isOneCellOfFrame 13 = .ok (.getfield 15, 3) := by decide +kernel
theorem d_Jg_isOneCellOfFrame_16 : decode b_Jg_isOneCellOfFrame 16 = .ok (.iload_n 1, 1) := by decide +kernel
theorem d_Jg_isOneCellOfFrame_17 : decode b_Jg_isOneCellOfFrame 17 = .ok (.invokevirtual 110, 3) := by decide +kernel
theorem d_Jg_isOneCellOfFrame_20 : decode b_Jg_isOneCellOfFrame 20 = .ok (.aload_n 0, 1) := by decide +kernel
theorem d_Jg_isOneCellOfFrame_21 : decode b_Jg_isOneCellOfFrame 21 = .ok (.getfield 15, 3) := by decide +kernel
theorem d_Jg_isOneCellOfFrame_24 : decode b_Jg_isOneCellOfFrame 24 = .ok (.iload_n 1, 1) := by decide +kernel
theorem d_Jg_isOneCellOfFrame_25 : decode b_Jg_isOneCellOfFrame 25 = .ok (.invokevirtual 114, 3) := by decide +kernel
theorem d_Jg_isOneCellOfFrame_28 : decode b_Jg_isOneCellOfFrame 28 = .ok (.lcmp, 1) := by decide +kernel
theorem d_Jg_isOneCellOfFrame_29 : decode b_Jg_isOneCellOfFrame 29 = .ok (.ifCond .ne 7, 3) := by decide +kernel
theorem d_Jg_isOneCellOfFrame_32 : decode b_Jg_isOneCellOfFrame 32 = .ok (.iconst 1, 1) := by decide +kernel
theorem d_Jg_isOneCellOfFrame_33 : decode b_Jg_isOneCellOfFrame 33 = .ok (.goto 4, 3) := by decide +kernel
theorem d_Jg_isOneCellOfFrame_36 : decode b_Jg_isOneCellOfFrame 36 = .ok (.iconst 0, 1) := by decide +kernel
theorem d_Jg_isOneCellOfFrame_37 : decode b_Jg_isOneCellOfFrame 37 = .ok (.ireturn, 1) := by decide +kernel
theorem d_Jg_storesOverNoRange_0 : decode b_Jg_storesOverNoRange 0 = .ok (.aload_n 1, 1) := by decide +kernel
theorem d_Jg_storesOverNoRange_1 : decode b_Jg_storesOverNoRange 1 = .ok (.getfield 61, 3) := by decide +kernel
theorem d_Jg_storesOverNoRange_4 : decode b_Jg_storesOverNoRange 4 = .ok (.bipush 15, 2) := by decide +kernel
theorem d_Jg_storesOverNoRange_6 : decode b_Jg_storesOverNoRange 6 = .ok (.if_icmp .ne 29, 3) := by decide +kernel
theorem d_Jg_storesOverNoRange_9 : decode b_Jg_storesOverNoRange 9 = .ok (.aload_n 0, 1) := by decide +kernel
theorem d_Jg_storesOverNoRange_10 : decode b_Jg_storesOverNoRange 10 = .ok (.getfield 15, 3) := by decide +kernel
theorem d_Jg_storesOverNoRange_13 : decode b_Jg_storesOverNoRange 13 = .ok (.aload_n 1, 1) := by decide +kernel
theorem d_Jg_storesOverNoRange_14 : decode b_Jg_storesOverNoRange 14 = .ok (.getfield 76, 3) := by decide +kernel
theorem d_Jg_storesOverNoRange_17 : decode b_Jg_storesOverNoRange 17 = .ok (.invokevirtual 103, 3) := by decide +kernel
theorem d_Jg_storesOverNoRange_20 : decode b_Jg_storesOverNoRange 20 = .ok (.iconst 2, 1) := by decide +kernel
theorem d_Jg_storesOverNoRange_21 : decode b_Jg_storesOverNoRange 21 = .ok (.if_icmp .ne 14, 3) := by decide +kernel
theorem d_Jg_storesOverNoRange_24 : decode b_Jg_storesOverNoRange 24 = .ok (.aload_n 0, 1) := by decide +kernel
theorem d_Jg_storesOverNoRange_25 : decode b_Jg_storesOverNoRange 25 = .ok (.aload_n 1, 1) := by decide +kernel
theorem d_Jg_storesOverNoRange_26 : decode b_Jg_storesOverNoRange 26 = .ok (.getfield 76, 3) := by decide +kernel
theorem d_Jg_storesOverNoRange_29 : decode b_Jg_storesOverNoRange 29 = .ok (.invokevirtual 107, 3) := by decide +kernel
theorem d_Jg_storesOverNoRange_32 : decode b_Jg_storesOverNoRange 32 = .ok (.ifCond .eq 5, 3) := by decide +kernel
theorem d_Jg_storesOverNoRange_35 : decode b_Jg_storesOverNoRange 35 = .ok (.iconst 0, 1) := by decide +kernel
theorem d_Jg_storesOverNoRange_36 : decode b_Jg_storesOverNoRange 36 = .ok (.ireturn, 1) := by decide +kernel
theorem d_Jg_storesOverNoRange_37 : decode b_Jg_storesOverNoRange 37 = .ok (.aload_n 0, 1) := by decide +kernel
theorem d_Jg_storesOverNoRange_38 : decode b_Jg_storesOverNoRange 38 = .ok (.getfield 15, 3) := by decide +kernel
theorem d_Jg_storesOverNoRange_41 : decode b_Jg_storesOverNoRange 41 = .ok (.aload_n 1, 1) := by decide +kernel
theorem d_Jg_storesOverNoRange_42 : decode b_Jg_storesOverNoRange 42 = .ok (.getfield 76, 3) := by decide +kernel
theorem d_Jg_storesOverNoRange_45 : decode b_Jg_storesOverNoRange 45 = .ok (.invokevirtual 110, 3) := by decide +kernel
theorem d_Jg_storesOverNoRange_48 : decode b_Jg_storesOverNoRange 48 = .ok (.aload_n 1, 1) := by decide +kernel
theorem d_Jg_storesOverNoRange_49 : decode b_Jg_storesOverNoRange 49 = .ok (.getfield 64, 3) := by decide +kernel
theorem d_Jg_storesOverNoRange_52 : decode b_Jg_storesOverNoRange 52 = .ok (.i2l, 1) := by decide +kernel
theorem d_Jg_storesOverNoRange_53 : decode b_Jg_storesOverNoRange 53 = .ok (.ladd, 1) := by decide +kernel
theorem d_Jg_storesOverNoRange_54 : decode b_Jg_storesOverNoRange 54 = .ok (.lstore_n 2, 1) := by decide +kernel
theorem d_Jg_storesOverNoRange_55 : decode b_Jg_storesOverNoRange 55 = .ok (.aload_n 0, 1) := by decide +kernel
theorem d_Jg_storesOverNoRange_56 : decode b_Jg_storesOverNoRange 56 = .ok (.getfield 15, 3) := by decide +kernel
theorem d_Jg_storesOverNoRange_59 : decode b_Jg_storesOverNoRange 59 = .ok (.aload_n 1, 1) := by decide +kernel
theorem d_Jg_storesOverNoRange_60 : decode b_Jg_storesOverNoRange 60 = .ok (.getfield 76, 3) := by decide +kernel
theorem d_Jg_storesOverNoRange_63 : decode b_Jg_storesOverNoRange 63 = .ok (.invokevirtual 114, 3) := by decide +kernel
theorem d_Jg_storesOverNoRange_66 : decode b_Jg_storesOverNoRange 66 = .ok (.aload_n 1, 1) := by decide +kernel
theorem d_Jg_storesOverNoRange_67 : decode b_Jg_storesOverNoRange 67 = .ok (.getfield 64, 3) := by decide +kernel
theorem d_Jg_storesOverNoRange_70 : decode b_Jg_storesOverNoRange 70 = .ok (.i2l, 1) := by decide +kernel
theorem d_Jg_storesOverNoRange_71 : decode b_Jg_storesOverNoRange 71 = .ok (.ladd, 1) := by decide +kernel
theorem d_Jg_storesOverNoRange_72 : decode b_Jg_storesOverNoRange 72 = .ok (.lstore 4, 2) := by decide +kernel
theorem d_Jg_storesOverNoRange_74 : decode b_Jg_storesOverNoRange 74 = .ok (.iconst 0, 1) := by decide +kernel
theorem d_Jg_storesOverNoRange_75 : decode b_Jg_storesOverNoRange 75 = .ok (.istore 6, 2) := by decide +kernel
theorem d_Jg_storesOverNoRange_77 : decode b_Jg_storesOverNoRange 77 = .ok (.iload 6, 2) := by decide +kernel
theorem d_Jg_storesOverNoRange_79 : decode b_Jg_storesOverNoRange 79 = .ok (.bipush 6, 2) := by decide +kernel
theorem d_Jg_storesOverNoRange_81 : decode b_Jg_storesOverNoRange 81 = .ok (.if_icmp .ge 59, 3) := by decide +kernel
theorem d_Jg_storesOverNoRange_84 : decode b_Jg_storesOverNoRange 84 = .ok (.bipush 6, 2) := by decide +kernel
theorem d_Jg_storesOverNoRange_86 : decode b_Jg_storesOverNoRange 86 = .ok (.iload 6, 2) := by decide +kernel
theorem d_Jg_storesOverNoRange_88 : decode b_Jg_storesOverNoRange 88 = .ok (.iadd, 1) := by decide +kernel
theorem d_Jg_storesOverNoRange_89 : decode b_Jg_storesOverNoRange 89 = .ok (.istore 7, 2) := by decide +kernel
theorem d_Jg_storesOverNoRange_91 : decode b_Jg_storesOverNoRange 91 = .ok (.iload 6, 2) := by decide +kernel
theorem d_Jg_storesOverNoRange_93 : decode b_Jg_storesOverNoRange 93 = .ok (.i2l, 1) := by decide +kernel
theorem d_Jg_storesOverNoRange_94 : decode b_Jg_storesOverNoRange 94 = .ok (.lload_n 2, 1) := by decide +kernel
theorem d_Jg_storesOverNoRange_95 : decode b_Jg_storesOverNoRange 95 = .ok (.lcmp, 1) := by decide +kernel
theorem d_Jg_storesOverNoRange_96 : decode b_Jg_storesOverNoRange 96 = .ok (.ifCond .lt 38, 3) := by decide +kernel
theorem d_Jg_storesOverNoRange_99 : decode b_Jg_storesOverNoRange 99 = .ok (.iload 6, 2) := by decide +kernel
theorem d_Jg_storesOverNoRange_101 : decode b_Jg_storesOverNoRange 101 = .ok (.i2l, 1) := by decide +kernel
theorem d_Jg_storesOverNoRange_102 : decode b_Jg_storesOverNoRange 102 = .ok (.lload 4, 2) := by decide +kernel
theorem d_Jg_storesOverNoRange_104 : decode b_Jg_storesOverNoRange 104 = .ok (.lcmp, 1) := by decide +kernel
theorem d_Jg_storesOverNoRange_105 : decode b_Jg_storesOverNoRange 105 = .ok (.ifCond .gt 29, 3) := by decide +kernel
theorem d_Jg_storesOverNoRange_108 : decode b_Jg_storesOverNoRange 108 = .ok (.aload_n 0, 1) := by decide +kernel
theorem d_Jg_storesOverNoRange_109 : decode b_Jg_storesOverNoRange 109 = .ok (.getfield 15, 3) := by decide +kernel
theorem d_Jg_storesOverNoRange_112 : decode b_Jg_storesOverNoRange 112 = .ok (.iload 7, 2) := by decide +kernel
theorem d_Jg_storesOverNoRange_114 : decode b_Jg_storesOverNoRange 114 = .ok (.invokevirtual 67, 3) := by decide +kernel
theorem d_Jg_storesOverNoRange_117 : decode b_Jg_storesOverNoRange 117 = .ok (.ifCond .ne 17, 3) := by decide +kernel
theorem d_Jg_storesOverNoRange_120 : decode b_Jg_storesOverNoRange 120 = .ok (.aload_n 0, 1) := by decide +kernel
theorem d_Jg_storesOverNoRange_121 : decode b_Jg_storesOverNoRange 121 = .ok (.getfield 15, 3) := by decide +kernel
theorem d_Jg_storesOverNoRange_124 : decode b_Jg_storesOverNoRange 124 = .ok (.iload 7, 2) := by decide +kernel
theorem d_Jg_storesOverNoRange_126 : decode b_Jg_storesOverNoRange 126 = .ok (.invokevirtual 88, 3) := by decide +kernel
theorem d_Jg_storesOverNoRange_129 : decode b_Jg_storesOverNoRange 129 = .ok (.ifCond .ne 5, 3) := by decide +kernel
theorem d_Jg_storesOverNoRange_132 : decode b_Jg_storesOverNoRange 132 = .ok (.iconst 1, 1) := by decide +kernel
theorem d_Jg_storesOverNoRange_133 : decode b_Jg_storesOverNoRange 133 = .ok (.ireturn, 1) := by decide +kernel
theorem d_Jg_storesOverNoRange_134 : decode b_Jg_storesOverNoRange 134 = .ok (.iinc 6 1, 3) := by decide +kernel
theorem d_Jg_storesOverNoRange_137 : decode b_Jg_storesOverNoRange 137 = .ok (.goto (-60), 3) := by decide +kernel
theorem d_Jg_storesOverNoRange_140 : decode b_Jg_storesOverNoRange 140 = .ok (.iconst 0, 1) := by decide +kernel
theorem d_Jg_storesOverNoRange_141 : decode b_Jg_storesOverNoRange 141 = .ok (.ireturn, 1) := by decide +kernel
theorem d_Jg_goesOutside_0 : decode b_Jg_goesOutside 0 = .ok (.aload_n 1, 1) := by decide +kernel
theorem d_Jg_goesOutside_1 : decode b_Jg_goesOutside 1 = .ok (.getfield 61, 3) := by decide +kernel
theorem d_Jg_goesOutside_4 : decode b_Jg_goesOutside 4 = .ok (.lookupswitch 122 #[(2, 44), (3, 63), (14, 94), (15, 108)], 44) := by decide +kernel
theorem d_Jg_goesOutside_48 : decode b_Jg_goesOutside 48 = .ok (.aload_n 0, 1) := by decide +kernel
theorem d_Jg_goesOutside_49 : decode b_Jg_goesOutside 49 = .ok (.aload_n 1, 1) := by decide +kernel
theorem d_Jg_goesOutside_50 : decode b_Jg_goesOutside 50 = .ok (.getfield 76, 3) := by decide +kernel
theorem d_Jg_goesOutside_53 : decode b_Jg_goesOutside 53 = .ok (.aload_n 1, 1) := by decide +kernel
theorem d_Jg_goesOutside_54 : decode b_Jg_goesOutside 54 = .ok (.getfield 64, 3) := by decide +kernel
theorem d_Jg_goesOutside_57 : decode b_Jg_goesOutside 57 = .ok (.i2l, 1) := by decide +kernel
theorem d_Jg_goesOutside_58 : decode b_Jg_goesOutside 58 = .ok (.aload_n 1, 1) := by decide +kernel
theorem d_Jg_goesOutside_59 : decode b_Jg_goesOutside 59 = .ok (.getfield 64, 3) := by decide +kernel
theorem d_Jg_goesOutside_62 : decode b_Jg_goesOutside 62 = .ok (.i2l, 1) := by decide +kernel
theorem d_Jg_goesOutside_63 : decode b_Jg_goesOutside 63 = .ok (.invokevirtual 117, 3) := by decide +kernel
theorem d_Jg_goesOutside_66 : decode b_Jg_goesOutside 66 = .ok (.ireturn, 1) := by decide +kernel
theorem d_Jg_goesOutside_67 : decode b_Jg_goesOutside 67 = .ok (.aload_n 0, 1) := by decide +kernel
theorem d_Jg_goesOutside_68 : decode b_Jg_goesOutside 68 = .ok (.aload_n 1, 1) := by decide +kernel
theorem d_Jg_goesOutside_69 : decode b_Jg_goesOutside 69 = .ok (.getfield 76, 3) := by decide +kernel
theorem d_Jg_goesOutside_72 : decode b_Jg_goesOutside 72 = .ok (.aload_n 0, 1) := by decide +kernel
theorem d_Jg_goesOutside_73 : decode b_Jg_goesOutside 73 = .ok (.getfield 15, 3) := by decide +kernel
theorem d_Jg_goesOutside_76 : decode b_Jg_goesOutside 76 = .ok (.aload_n 1, 1) := by decide +kernel
theorem d_Jg_goesOutside_77 : decode b_Jg_goesOutside 77 = .ok (.getfield 82, 3) := by decide +kernel
theorem d_Jg_goesOutside_80 : decode b_Jg_goesOutside 80 = .ok (.invokevirtual 110, 3) := by decide +kernel
theorem d_Jg_goesOutside_83 : decode b_Jg_goesOutside 83 = .ok (.aload_n 0, 1) := by decide +kernel
theorem d_Jg_goesOutside_84 : decode b_Jg_goesOutside 84 = .ok (.getfield 15, 3) := by decide +kernel
theorem d_Jg_goesOutside_87 : decode b_Jg_goesOutside 87 = .ok (.aload_n 1, 1) := by decide +kernel
theorem d_Jg_goesOutside_88 : decode b_Jg_goesOutside 88 = .ok (.getfield 82, 3) := by decide +kernel
theorem d_Jg_goesOutside_91 : decode b_Jg_goesOutside 91 = .ok (.invokevirtual 114, 3) := by decide +kernel
theorem d_Jg_goesOutside_94 : decode b_Jg_goesOutside 94 = .ok (.invokevirtual 117, 3) := by decide +kernel
theorem d_Jg_goesOutside_97 : decode b_Jg_goesOutside 97 = .ok (.ireturn, 1) := by decide +kernel
theorem d_Jg_goesOutside_98 : decode b_Jg_goesOutside 98 = .ok (.aload_n 0, 1) := by decide +kernel
theorem d_Jg_goesOutside_99 : decode b_Jg_goesOutside 99 = .ok (.aload_n 1, 1) := by decide +kernel
theorem d_Jg_goesOutside_100 : decode b_Jg_goesOutside 100 = .ok (.getfield 82, 3) := by decide +kernel
theorem d_Jg_goesOutside_103 : decode b_Jg_goesOutside 103 = .ok (.aload_n 1, 1) := by decide +kernel
theorem d_Jg_goesOutside_104 : decode b_Jg_goesOutside 104 = .ok (.getfield 64, 3) := by decide +kernel
theorem d_Jg_goesOutside_107 : decode b_Jg_goesOutside 107 = .ok (.i2l, 1) := by decide +kernel
theorem d_Jg_goesOutside_108 : decode b_Jg_goesOutside 108 = .ok (.invokevirtual 121, 3) := by decide +kernel
theorem d_Jg_goesOutside_111 : decode b_Jg_goesOutside 111 = .ok (.ireturn, 1) := by decide +kernel
theorem d_Jg_goesOutside_112 : decode b_Jg_goesOutside 112 = .ok (.aload_n 0, 1) := by decide +kernel
theorem d_Jg_goesOutside_113 : decode b_Jg_goesOutside 113 = .ok (.aload_n 1, 1) := by decide +kernel
theorem d_Jg_goesOutside_114 : decode b_Jg_goesOutside 114 = .ok (.getfield 76, 3) := by decide +kernel
theorem d_Jg_goesOutside_117 : decode b_Jg_goesOutside 117 = .ok (.aload_n 1, 1) := by decide +kernel
theorem d_Jg_goesOutside_118 : decode b_Jg_goesOutside 118 = .ok (.getfield 64, 3) := by decide +kernel
theorem d_Jg_goesOutside_121 : decode b_Jg_goesOutside 121 = .ok (.i2l, 1) := by decide +kernel
theorem d_Jg_goesOutside_122 : decode b_Jg_goesOutside 122 = .ok (.invokevirtual 121, 3) := by decide +kernel
theorem d_Jg_goesOutside_125 : decode b_Jg_goesOutside 125 = .ok (.ireturn, 1) := by decide +kernel
theorem d_Jg_goesOutside_126 : decode b_Jg_goesOutside 126 = .ok (.iconst 0, 1) := by decide +kernel
theorem d_Jg_goesOutside_127 : decode b_Jg_goesOutside 127 = .ok (.ireturn, 1) := by decide +kernel
theorem d_Jg_movesTooFar_0 : decode b_Jg_movesTooFar 0 = .ok (.aload_n 0, 1) := by decide +kernel
theorem d_Jg_movesTooFar_1 : decode b_Jg_movesTooFar 1 = .ok (.getfield 15, 3) := by decide +kernel
theorem d_Jg_movesTooFar_4 : decode b_Jg_movesTooFar 4 = .ok (.iload_n 1, 1) := by decide +kernel
theorem d_Jg_movesTooFar_5 : decode b_Jg_movesTooFar 5 = .ok (.invokevirtual 94, 3) := by decide +kernel
theorem d_Jg_movesTooFar_8 : decode b_Jg_movesTooFar 8 = .ok (.ifCond .eq 77, 3) := by decide +kernel
theorem d_Jg_movesTooFar_11 : decode b_Jg_movesTooFar 11 = .ok (.aload_n 0, 1) := by decide +kernel
theorem d_Jg_movesTooFar_12 : decode b_Jg_movesTooFar 12 = .ok (.getfield 15, 3) := by decide +kernel
theorem d_Jg_movesTooFar_15 : decode b_Jg_movesTooFar 15 = .ok (.iload_n 1, 1) := by decide +kernel
theorem d_Jg_movesTooFar_16 : decode b_Jg_movesTooFar 16 = .ok (.invokevirtual 110, 3) := by decide +kernel
theorem d_Jg_movesTooFar_19 : decode b_Jg_movesTooFar 19 = .ok (.lload_n 2, 1) := by decide +kernel
theorem d_Jg_movesTooFar_20 : decode b_Jg_movesTooFar 20 = .ok (.ladd, 1) := by decide +kernel
theorem d_Jg_movesTooFar_21 : decode b_Jg_movesTooFar 21 = .ok (.ldc2_w 125, 3) := by decide +kernel
theorem d_Jg_movesTooFar_24 : decode b_Jg_movesTooFar 24 = .ok (.lcmp, 1) := by decide +kernel
theorem d_Jg_movesTooFar_25 : decode b_Jg_movesTooFar 25 = .ok (.ifCond .lt 56, 3) := by decide +kernel
theorem d_Jg_movesTooFar_28 : decode b_Jg_movesTooFar 28 = .ok (.aload_n 0, 1) := by decide +kernel
theorem d_Jg_movesTooFar_29 : decode b_Jg_movesTooFar 29 = .ok (.getfield 15, 3) := by decide +kernel
theorem d_Jg_movesTooFar_32 : decode b_Jg_movesTooFar 32 = .ok (.iload_n 1, 1) := by decide +kernel
theorem d_Jg_movesTooFar_33 : decode b_Jg_movesTooFar 33 = .ok (.invokevirtual 110, 3) := by decide +kernel
theorem d_Jg_movesTooFar_36 : decode b_Jg_movesTooFar 36 = .ok (.lload_n 2, 1) := by decide +kernel
theorem d_Jg_movesTooFar_37 : decode b_Jg_movesTooFar 37 = .ok (.ladd, 1) := by decide +kernel
theorem d_Jg_movesTooFar_38 : decode b_Jg_movesTooFar 38 = .ok (.ldc2_w 127, 3) := by decide +kernel
theorem d_Jg_movesTooFar_41 : decode b_Jg_movesTooFar 41 = .ok (.lcmp, 1) := by decide +kernel
theorem d_Jg_movesTooFar_42 : decode b_Jg_movesTooFar 42 = .ok (.ifCond .gt 39, 3) := by decide +kernel
theorem d_Jg_movesTooFar_45 : decode b_Jg_movesTooFar 45 = .ok (.aload_n 0, 1) := by decide +kernel
theorem d_Jg_movesTooFar_46 : decode b_Jg_movesTooFar 46 = .ok (.getfield 15, 3) := by decide +kernel
theorem d_Jg_movesTooFar_49 : decode b_Jg_movesTooFar 49 = .ok (.iload_n 1, 1) := by decide +kernel
theorem d_Jg_movesTooFar_50 : decode b_Jg_movesTooFar 50 = .ok (.invokevirtual 114, 3) := by decide +kernel
theorem d_Jg_movesTooFar_53 : decode b_Jg_movesTooFar 53 = .ok (.lload 4, 2) := by decide +kernel
theorem d_Jg_movesTooFar_55 : decode b_Jg_movesTooFar 55 = .ok (.ladd, 1) := by decide +kernel
theorem d_Jg_movesTooFar_56 : decode b_Jg_movesTooFar 56 = .ok (.ldc2_w 125, 3) := by decide +kernel
theorem d_Jg_movesTooFar_59 : decode b_Jg_movesTooFar 59 = .ok (.lcmp, 1) := by decide +kernel
theorem d_Jg_movesTooFar_60 : decode b_Jg_movesTooFar 60 = .ok (.ifCond .lt 21, 3) := by decide +kernel
theorem d_Jg_movesTooFar_63 : decode b_Jg_movesTooFar 63 = .ok (.aload_n 0, 1) := by decide +kernel
theorem d_Jg_movesTooFar_64 : decode b_Jg_movesTooFar 64 = .ok (.getfield 15, 3) := by decide +kernel
theorem d_Jg_movesTooFar_67 : decode b_Jg_movesTooFar 67 = .ok (.iload_n 1, 1) := by decide +kernel
theorem d_Jg_movesTooFar_68 : decode b_Jg_movesTooFar 68 = .ok (.invokevirtual 114, 3) := by decide +kernel
theorem d_Jg_movesTooFar_71 : decode b_Jg_movesTooFar 71 = .ok (.lload 4, 2) := by decide +kernel
theorem d_Jg_movesTooFar_73 : decode b_Jg_movesTooFar 73 = .ok (.ladd, 1) := by decide +kernel
theorem d_Jg_movesTooFar_74 : decode b_Jg_movesTooFar 74 = .ok (.ldc2_w 127, 3) := by decide +kernel
theorem d_Jg_movesTooFar_77 : decode b_Jg_movesTooFar 77 = .ok (.lcmp, 1) := by decide +kernel
theorem d_Jg_movesTooFar_78 : decode b_Jg_movesTooFar 78 = .ok (.ifCond .le 7, 3) := by decide +kernel
theorem d_Jg_movesTooFar_81 : decode b_Jg_movesTooFar 81 = .ok (.iconst 1, 1) := by decide +kernel
theorem d_Jg_movesTooFar_82 : decode b_Jg_movesTooFar 82 = .ok (.goto 4, 3) := by decide +kernel
theorem d_Jg_movesTooFar_85 : decode b_Jg_movesTooFar 85 = .ok (.iconst 0, 1) := by decide +kernel
theorem d_Jg_movesTooFar_86 : decode b_Jg_movesTooFar 86 = .ok (.ireturn, 1) := by decide +kernel
theorem d_Jg_missesCells_0 : decode b_Jg_missesCells 0 = .ok (.aload_n 0, 1) := by decide +kernel
theorem d_Jg_missesCells_1 : decode b_Jg_missesCells 1 = .ok (.getfield 15, 3) := by decide +kernel
theorem d_Jg_missesCells_4 : decode b_Jg_missesCells 4 = .ok (.iload_n 1, 1) := by decide +kernel
theorem d_Jg_missesCells_5 : decode b_Jg_missesCells 5 = .ok (.invokevirtual 103, 3) := by decide +kernel
theorem d_Jg_missesCells_8 : decode b_Jg_missesCells 8 = .ok (.iconst 2, 1) := by decide +kernel
theorem d_Jg_missesCells_9 : decode b_Jg_missesCells 9 = .ok (.if_icmp .ne 8, 3) := by decide +kernel
theorem d_Jg_missesCells_12 : decode b_Jg_missesCells 12 = .ok (.bipush 6, 2) := by decide +kernel
theorem d_Jg_missesCells_14 : decode b_Jg_missesCells 14 = .ok (.goto 4, 3) := by decide +kernel
theorem d_Jg_missesCells_17 : decode b_Jg_missesCells 17 = .ok (.iconst 2, 1) := by decide +kernel
theorem d_Jg_missesCells_18 : decode b_Jg_missesCells 18 = .ok (.istore 4, 2) := by decide +kernel
theorem d_Jg_missesCells_20 : decode b_Jg_missesCells 20 = .ok (.aload_n 0, 1) := by decide +kernel
theorem d_Jg_missesCells_21 : decode b_Jg_missesCells 21 = .ok (.getfield 15, 3) := by decide +kernel
theorem d_Jg_missesCells_24 : decode b_Jg_missesCells 24 = .ok (.iload_n 1, 1) := by decide +kernel
theorem d_Jg_missesCells_25 : decode b_Jg_missesCells 25 = .ok (.invokevirtual 110, 3) := by decide +kernel
theorem d_Jg_missesCells_28 : decode b_Jg_missesCells 28 = .ok (.lload_n 2, 1) := by decide +kernel
theorem d_Jg_missesCells_29 : decode b_Jg_missesCells 29 = .ok (.ladd, 1) := by decide +kernel
theorem d_Jg_missesCells_30 : decode b_Jg_missesCells 30 = .ok (.lconst 0, 1) := by decide +kernel
theorem d_Jg_missesCells_31 : decode b_Jg_missesCells 31 = .ok (.lcmp, 1) := by decide +kernel
theorem d_Jg_missesCells_32 : decode b_Jg_missesCells 32 = .ok (.ifCond .lt 20, 3) := by decide +kernel
theorem d_Jg_missesCells_35 : decode b_Jg_missesCells 35 = .ok (.aload_n 0, 1) := by decide +kernel
theorem d_Jg_missesCells_36 : decode b_Jg_missesCells 36 = .ok (.getfield 15, 3) := by decide +kernel
theorem d_Jg_missesCells_39 : decode b_Jg_missesCells 39 = .ok (.iload_n 1, 1) := by decide +kernel
theorem d_Jg_missesCells_40 : decode b_Jg_missesCells 40 = .ok (.invokevirtual 114, 3) := by decide +kernel
theorem d_Jg_missesCells_43 : decode b_Jg_missesCells 43 = .ok (.lload_n 2, 1) := by decide +kernel
theorem d_Jg_missesCells_44 : decode b_Jg_missesCells 44 = .ok (.ladd, 1) := by decide +kernel
theorem d_Jg_missesCells_45 : decode b_Jg_missesCells 45 = .ok (.iload 4, 2) := by decide +kernel
theorem d_Jg_missesCells_47 : decode b_Jg_missesCells 47 = .ok (.i2l, 1) := by decide +kernel
theorem d_Jg_missesCells_48 : decode b_Jg_missesCells 48 = .ok (.lcmp, 1) := by decide +kernel
theorem d_Jg_missesCells_49 : decode b_Jg_missesCells 49 = .ok (.ifCond .lt 7, 3) := by decide +kernel
theorem d_Jg_missesCells_52 : decode b_Jg_missesCells 52 = .ok (.iconst 1, 1) := by decide +kernel
theorem d_Jg_missesCells_53 : decode b_Jg_missesCells 53 = .ok (.goto 4, 3) := by decide +kernel
theorem d_Jg_missesCells_56 : decode b_Jg_missesCells 56 = .ok (.iconst 0, 1) := by decide +kernel
theorem d_Jg_missesCells_57 : decode b_Jg_missesCells 57 = .ok (.ireturn, 1) := by decide +kernel
theorem d_Jg_loadsUnfitCell_0 : decode b_Jg_loadsUnfitCell 0 = .ok (.aload_n 1, 1) := by decide +kernel
theorem d_Jg_loadsUnfitCell_1 : decode b_Jg_loadsUnfitCell 1 = .ok (.getfield 61, 3) := by decide +kernel
theorem d_Jg_loadsUnfitCell_4 : decode b_Jg_loadsUnfitCell 4 = .ok (.bipush 14, 2) := by decide +kernel
theorem d_Jg_loadsUnfitCell_6 : decode b_Jg_loadsUnfitCell 6 = .ok (.if_icmp .ne 18, 3) := by decide +kernel
theorem d_Jg_loadsUnfitCell_9 : decode b_Jg_loadsUnfitCell 9 = .ok (.aload_n 0, 1) := by decide +kernel
theorem d_Jg_loadsUnfitCell_10 : decode b_Jg_loadsUnfitCell 10 = .ok (.getfield 15, 3) := by decide +kernel
theorem d_Jg_loadsUnfitCell_13 : decode b_Jg_loadsUnfitCell 13 = .ok (.aload_n 1, 1) := by decide +kernel
theorem d_Jg_loadsUnfitCell_14 : decode b_Jg_loadsUnfitCell 14 = .ok (.getfield 82, 3) := by decide +kernel
theorem d_Jg_loadsUnfitCell_17 : decode b_Jg_loadsUnfitCell 17 = .ok (.invokevirtual 103, 3) := by decide +kernel
theorem d_Jg_loadsUnfitCell_20 : decode b_Jg_loadsUnfitCell 20 = .ok (.iconst 2, 1) := by decide +kernel
theorem d_Jg_loadsUnfitCell_21 : decode b_Jg_loadsUnfitCell 21 = .ok (.if_icmp .eq 5, 3) := by decide +kernel
theorem d_Jg_loadsUnfitCell_24 : decode b_Jg_loadsUnfitCell 24 = .ok (.iconst 0, 1) := by decide +kernel
theorem d_Jg_loadsUnfitCell_25 : decode b_Jg_loadsUnfitCell 25 = .ok (.ireturn, 1) := by decide +kernel
theorem d_Jg_loadsUnfitCell_26 : decode b_Jg_loadsUnfitCell 26 = .ok (.aload_n 0, 1) := by decide +kernel
theorem d_Jg_loadsUnfitCell_27 : decode b_Jg_loadsUnfitCell 27 = .ok (.getfield 15, 3) := by decide +kernel
theorem d_Jg_loadsUnfitCell_30 : decode b_Jg_loadsUnfitCell 30 = .ok (.aload_n 1, 1) := by decide +kernel
theorem d_Jg_loadsUnfitCell_31 : decode b_Jg_loadsUnfitCell 31 = .ok (.getfield 82, 3) := by decide +kernel
theorem d_Jg_loadsUnfitCell_34 : decode b_Jg_loadsUnfitCell 34 = .ok (.invokevirtual 110, 3) := by decide +kernel
theorem d_Jg_loadsUnfitCell_37 : decode b_Jg_loadsUnfitCell 37 = .ok (.aload_n 1, 1) := by decide +kernel
theorem d_Jg_loadsUnfitCell_38 : decode b_Jg_loadsUnfitCell 38 = .ok (.getfield 64, 3) := by decide +kernel
theorem d_Jg_loadsUnfitCell_41 : decode b_Jg_loadsUnfitCell 41 = .ok (.i2l, 1) := by decide +kernel
theorem d_Jg_loadsUnfitCell_42 : decode b_Jg_loadsUnfitCell 42 = .ok (.ladd, 1) := by decide +kernel
theorem d_Jg_loadsUnfitCell_43 : decode b_Jg_loadsUnfitCell 43 = .ok (.lstore_n 2, 1) := by decide +kernel
theorem d_Jg_loadsUnfitCell_44 : decode b_Jg_loadsUnfitCell 44 = .ok (.aload_n 0, 1) := by decide +kernel
theorem d_Jg_loadsUnfitCell_45 : decode b_Jg_loadsUnfitCell 45 = .ok (.getfield 15, 3) := by decide +kernel
theorem d_Jg_loadsUnfitCell_48 : decode b_Jg_loadsUnfitCell 48 = .ok (.aload_n 1, 1) := by decide +kernel
theorem d_Jg_loadsUnfitCell_49 : decode b_Jg_loadsUnfitCell 49 = .ok (.getfield 82, 3) := by decide +kernel
theorem d_Jg_loadsUnfitCell_52 : decode b_Jg_loadsUnfitCell 52 = .ok (.invokevirtual 114, 3) := by decide +kernel
theorem d_Jg_loadsUnfitCell_55 : decode b_Jg_loadsUnfitCell 55 = .ok (.aload_n 1, 1) := by decide +kernel
theorem d_Jg_loadsUnfitCell_56 : decode b_Jg_loadsUnfitCell 56 = .ok (.getfield 64, 3) := by decide +kernel
theorem d_Jg_loadsUnfitCell_59 : decode b_Jg_loadsUnfitCell 59 = .ok (.i2l, 1) := by decide +kernel
theorem d_Jg_loadsUnfitCell_60 : decode b_Jg_loadsUnfitCell 60 = .ok (.ladd, 1) := by decide +kernel
theorem d_Jg_loadsUnfitCell_61 : decode b_Jg_loadsUnfitCell 61 = .ok (.lstore 4, 2) := by decide +kernel
theorem d_Jg_loadsUnfitCell_63 : decode b_Jg_loadsUnfitCell 63 = .ok (.iconst 0, 1) := by decide +kernel
theorem d_Jg_loadsUnfitCell_64 : decode b_Jg_loadsUnfitCell 64 = .ok (.istore 6, 2) := by decide +kernel
theorem d_Jg_loadsUnfitCell_66 : decode b_Jg_loadsUnfitCell 66 = .ok (.iload 6, 2) := by decide +kernel
theorem d_Jg_loadsUnfitCell_68 : decode b_Jg_loadsUnfitCell 68 = .ok (.bipush 6, 2) := by decide +kernel
theorem d_Jg_loadsUnfitCell_70 : decode b_Jg_loadsUnfitCell 70 = .ok (.if_icmp .ge 78, 3) := by decide +kernel
theorem d_Jg_loadsUnfitCell_73 : decode b_Jg_loadsUnfitCell 73 = .ok (.bipush 6, 2) := by decide +kernel
theorem d_Jg_loadsUnfitCell_75 : decode b_Jg_loadsUnfitCell 75 = .ok (.iload 6, 2) := by decide +kernel
theorem d_Jg_loadsUnfitCell_77 : decode b_Jg_loadsUnfitCell 77 = .ok (.iadd, 1) := by decide +kernel
theorem d_Jg_loadsUnfitCell_78 : decode b_Jg_loadsUnfitCell 78 = .ok (.istore 7, 2) := by decide +kernel
theorem d_Jg_loadsUnfitCell_80 : decode b_Jg_loadsUnfitCell 80 = .ok (.lload_n 2, 1) := by decide +kernel
theorem d_Jg_loadsUnfitCell_81 : decode b_Jg_loadsUnfitCell 81 = .ok (.lload 4, 2) := by decide +kernel
theorem d_Jg_loadsUnfitCell_83 : decode b_Jg_loadsUnfitCell 83 = .ok (.lcmp, 1) := by decide +kernel
theorem d_Jg_loadsUnfitCell_84 : decode b_Jg_loadsUnfitCell 84 = .ok (.ifCond .ne 23, 3) := by decide +kernel
theorem d_Jg_loadsUnfitCell_87 : decode b_Jg_loadsUnfitCell 87 = .ok (.aload_n 0, 1) := by decide +kernel
theorem d_Jg_loadsUnfitCell_88 : decode b_Jg_loadsUnfitCell 88 = .ok (.getfield 15, 3) := by decide +kernel
theorem d_Jg_loadsUnfitCell_91 : decode b_Jg_loadsUnfitCell 91 = .ok (.iload 7, 2) := by decide +kernel
theorem d_Jg_loadsUnfitCell_93 : decode b_Jg_loadsUnfitCell 93 = .ok (.invokevirtual 67, 3) := by decide +kernel
theorem d_Jg_loadsUnfitCell_96 : decode b_Jg_loadsUnfitCell 96 = .ok (.ifCond .ne 7, 3) := by decide +kernel
theorem d_Jg_loadsUnfitCell_99 : decode b_Jg_loadsUnfitCell 99 = .ok (.iconst 1, 1) := by decide +kernel
theorem d_Jg_loadsUnfitCell_100 : decode b_Jg_loadsUnfitCell 100 = .ok (.goto 16, 3) := by decide +kernel
theorem d_Jg_loadsUnfitCell_103 : decode b_Jg_loadsUnfitCell 103 = .ok (.iconst 0, 1) := by decide +kernel
theorem d_Jg_loadsUnfitCell_104 : decode b_Jg_loadsUnfitCell 104 = .ok (.goto 12, 3) := by decide +kernel
theorem d_Jg_loadsUnfitCell_107 : decode b_Jg_loadsUnfitCell 107 = .ok (.aload_n 0, 1) := by decide +kernel
theorem d_Jg_loadsUnfitCell_108 : decode b_Jg_loadsUnfitCell 108 = .ok (.getfield 15, 3) := by decide +kernel
theorem d_Jg_loadsUnfitCell_111 : decode b_Jg_loadsUnfitCell 111 = .ok (.iload 7, 2) := by decide +kernel
theorem d_Jg_loadsUnfitCell_113 : decode b_Jg_loadsUnfitCell 113 = .ok (.invokevirtual 88, 3) := by decide +kernel
theorem d_Jg_loadsUnfitCell_116 : decode b_Jg_loadsUnfitCell 116 = .ok (.istore 8, 2) := by decide +kernel
theorem d_Jg_loadsUnfitCell_118 : decode b_Jg_loadsUnfitCell 118 = .ok (.iload 6, 2) := by decide +kernel
theorem d_Jg_loadsUnfitCell_120 : decode b_Jg_loadsUnfitCell 120 = .ok (.i2l, 1) := by decide +kernel
theorem d_Jg_loadsUnfitCell_121 : decode b_Jg_loadsUnfitCell 121 = .ok (.lload_n 2, 1) := by decide +kernel
theorem d_Jg_loadsUnfitCell_122 : decode b_Jg_loadsUnfitCell 122 = .ok (.lcmp, 1) := by decide +kernel
theorem d_Jg_loadsUnfitCell_123 : decode b_Jg_loadsUnfitCell 123 = .ok (.ifCond .lt 19, 3) := by decide +kernel
theorem d_Jg_loadsUnfitCell_126 : decode b_Jg_loadsUnfitCell 126 = .ok (.iload 6, 2) := by decide +kernel
theorem d_Jg_loadsUnfitCell_128 : decode b_Jg_loadsUnfitCell 128 = .ok (.i2l, 1) := by decide +kernel
theorem d_Jg_loadsUnfitCell_129 : decode b_Jg_loadsUnfitCell 129 = .ok (.lload 4, 2) := by decide +kernel
theorem d_Jg_loadsUnfitCell_131 : decode b_Jg_loadsUnfitCell 131 = .ok (.lcmp, 1) := by decide +kernel
theorem d_Jg_loadsUnfitCell_132 : decode b_Jg_loadsUnfitCell 132 = .ok (.ifCond .gt 10, 3) := by decide +kernel
theorem d_Jg_loadsUnfitCell_135 : decode b_Jg_loadsUnfitCell 135 = .ok (.iload 8, 2) := by decide +kernel
theorem d_Jg_loadsUnfitCell_137 : decode b_Jg_loadsUnfitCell 137 = .ok (.ifCond .ne 5, 3) := by decide +kernel
theorem d_Jg_loadsUnfitCell_140 : decode b_Jg_loadsUnfitCell 140 = .ok (.iconst 1, 1) := by decide +kernel
theorem d_Jg_loadsUnfitCell_141 : decode b_Jg_loadsUnfitCell 141 = .ok (.ireturn, 1) := by decide +kernel
theorem d_Jg_loadsUnfitCell_142 : decode b_Jg_loadsUnfitCell 142 = .ok (.iinc 6 1, 3) := by decide +kernel
theorem d_Jg_loadsUnfitCell_145 : decode b_Jg_loadsUnfitCell 145 = .ok (.goto (-79), 3) := by decide +kernel
theorem d_Jg_loadsUnfitCell_148 : decode b_Jg_loadsUnfitCell 148 = .ok (.iconst 0, 1) := by decide +kernel
theorem d_Jg_loadsUnfitCell_149 : decode b_Jg_loadsUnfitCell 149 = .ok (.ireturn, 1) := by decide +kernel
theorem d_Jg_findsNoRow_0 : decode b_Jg_findsNoRow 0 = .ok (.aload_n 1, 1) := by decide +kernel
theorem d_Jg_findsNoRow_1 : decode b_Jg_findsNoRow 1 = .ok (.iconst 1, 1) := by decide +kernel
theorem d_Jg_findsNoRow_2 : decode b_Jg_findsNoRow 2 = .ok (.invokevirtual 129, 3) := by decide +kernel
theorem d_Jg_findsNoRow_5 : decode b_Jg_findsNoRow 5 = .ok (.ifCond .eq 35, 3) := by decide +kernel
theorem d_Jg_findsNoRow_8 : decode b_Jg_findsNoRow 8 = .ok (.aload_n 0, 1) := by decide +kernel
theorem d_Jg_findsNoRow_9 : decode b_Jg_findsNoRow 9 = .ok (.getfield 15, 3) := by decide +kernel
theorem d_Jg_findsNoRow_12 : decode b_Jg_findsNoRow 12 = .ok (.iconst 1, 1) := by decide +kernel
theorem d_Jg_findsNoRow_13 : decode b_Jg_findsNoRow 13 = .ok (.invokevirtual 110, 3) := by decide +kernel
theorem d_Jg_findsNoRow_16 : decode b_Jg_findsNoRow 16 = .ok (.lconst 0, 1) := by decide +kernel
theorem d_Jg_findsNoRow_17 : decode b_Jg_findsNoRow 17 = .ok (.lcmp, 1) := by decide +kernel
theorem d_Jg_findsNoRow_18 : decode b_Jg_findsNoRow 18 = .ok (.ifCond .lt 18, 3) := by decide +kernel
theorem d_Jg_findsNoRow_21 : decode b_Jg_findsNoRow 21 = .ok (.aload_n 0, 1) := by decide +kernel
theorem d_Jg_findsNoRow_22 : decode b_Jg_findsNoRow 22 = .ok (.getfield 15, 3) := by decide +kernel
theorem d_Jg_findsNoRow_25 : decode b_Jg_findsNoRow 25 = .ok (.iconst 1, 1) := by decide +kernel
theorem d_Jg_findsNoRow_26 : decode b_Jg_findsNoRow 26 = .ok (.invokevirtual 114, 3) := by decide +kernel
theorem d_Jg_findsNoRow_29 : decode b_Jg_findsNoRow 29 = .ok (.ldc2_w 132, 3) := by decide +kernel
theorem d_Jg_findsNoRow_32 : decode b_Jg_findsNoRow 32 = .ok (.lcmp, 1) := by decide +kernel
theorem d_Jg_findsNoRow_33 : decode b_Jg_findsNoRow 33 = .ok (.ifCond .le 7, 3) := by decide +kernel
theorem d_Jg_findsNoRow_36 : decode b_Jg_findsNoRow 36 = .ok (.iconst 1, 1) := by decide +kernel
theorem d_Jg_findsNoRow_37 : decode b_Jg_findsNoRow 37 = .ok (.goto 4, 3) := by decide +kernel
theorem d_Jg_findsNoRow_40 : decode b_Jg_findsNoRow 40 = .ok (.iconst 0, 1) := by decide +kernel
theorem d_Jg_findsNoRow_41 : decode b_Jg_findsNoRow 41 = .ok (.ireturn, 1) := by decide +kernel
theorem d_Rn_init_0 : decode b_Rn_init 0 = .ok (.aload_n 0, 1) := by decide +kernel
theorem d_Rn_init_1 : decode b_Rn_init 1 = .ok (.invokespecial 3, 3) := by decide +kernel
theorem d_Rn_init_4 : decode b_Rn_init 4 = .ok (.aload_n 0, 1) := by decide +kernel
theorem d_Rn_init_5 : decode b_Rn_init 5 = .ok (.aload_n 1, 1) := by decide +kernel
theorem d_Rn_init_6 : decode b_Rn_init 6 = .ok (.putfield 9, 3) := by decide +kernel
theorem d_Rn_init_9 : decode b_Rn_init 9 = .ok (.aload_n 0, 1) := by decide +kernel
theorem d_Rn_init_10 : decode b_Rn_init 10 = .ok (.bipush 6, 2) := by decide +kernel
theorem d_Rn_init_12 : decode b_Rn_init 12 = .ok (.iconst 2, 1) := by decide +kernel
theorem d_Rn_init_13 : decode b_Rn_init 13 = .ok (.multianewarray 15 2, 4) := by decide +kernel
theorem d_Rn_init_17 : decode b_Rn_init 17 = .ok (.putfield 17, 3) := by decide +kernel
theorem d_Rn_init_20 : decode b_Rn_init 20 = .ok (.aload_n 0, 1) := by decide +kernel
theorem d_Rn_init_21 : decode b_Rn_init 21 = .ok (.bipush 12, 2) := by decide +kernel
theorem d_Rn_init_23 : decode b_Rn_init 23 = .ok (.newarray .int, 2) := by decide +kernel
theorem d_Rn_init_25 : decode b_Rn_init 25 = .ok (.putfield 20, 3) := by decide +kernel
theorem d_Rn_init_28 : decode b_Rn_init 28 = .ok (.aload_n 0, 1) := by decide +kernel
theorem d_Rn_init_29 : decode b_Rn_init 29 = .ok (.bipush 12, 2) := by decide +kernel
theorem d_Rn_init_31 : decode b_Rn_init 31 = .ok (.newarray .long, 2) := by decide +kernel
theorem d_Rn_init_33 : decode b_Rn_init 33 = .ok (.putfield 24, 3) := by decide +kernel
theorem d_Rn_init_36 : decode b_Rn_init 36 = .ok (.aload_n 0, 1) := by decide +kernel
theorem d_Rn_init_37 : decode b_Rn_init 37 = .ok (.iconst 0, 1) := by decide +kernel
theorem d_Rn_init_38 : decode b_Rn_init 38 = .ok (.putfield 28, 3) := by decide +kernel
theorem d_Rn_init_41 : decode b_Rn_init 41 = .ok (.aload_n 0, 1) := by decide +kernel
theorem d_Rn_init_42 : decode b_Rn_init 42 = .ok (.iconst 0, 1) := by decide +kernel
theorem d_Rn_init_43 : decode b_Rn_init 43 = .ok (.putfield 32, 3) := by decide +kernel
theorem d_Rn_init_46 : decode b_Rn_init 46 = .ok (.return_, 1) := by decide +kernel
theorem d_Rn_stepsRun_0 : decode b_Rn_stepsRun 0 = .ok (.aload_n 0, 1) := by decide +kernel
theorem d_Rn_stepsRun_1 : decode b_Rn_stepsRun 1 = .ok (.getfield 28, 3) := by decide +kernel
theorem d_Rn_stepsRun_4 : decode b_Rn_stepsRun 4 = .ok (.ireturn, 1) := by decide +kernel
theorem d_Rn_countCalls_0 : decode b_Rn_countCalls 0 = .ok (.aload_n 0, 1) := by decide +kernel
theorem d_Rn_countCalls_1 : decode b_Rn_countCalls 1 = .ok (.getfield 32, 3) := by decide +kernel
theorem d_Rn_countCalls_4 : decode b_Rn_countCalls 4 = .ok (.ireturn, 1) := by decide +kernel
theorem d_Rn_mapCell_0 : decode b_Rn_mapCell 0 = .ok (.iload_n 1, 1) := by decide +kernel
theorem d_Rn_mapCell_1 : decode b_Rn_mapCell 1 = .ok (.iload_n 2, 1) := by decide +kernel
theorem d_Rn_mapCell_2 : decode b_Rn_mapCell 2 = .ok (.invokestatic 35, 3) := by decide +kernel
theorem d_Rn_mapCell_5 : decode b_Rn_mapCell 5 = .ok (.ifCond .eq 14, 3) := by decide +kernel
theorem d_Rn_mapCell_8 : decode b_Rn_mapCell 8 = .ok (.aload_n 0, 1) := by decide +kernel
theorem d_Rn_mapCell_9 : decode b_Rn_mapCell 9 = .ok (.getfield 17, 3) := by decide +kernel
theorem d_Rn_mapCell_12 : decode b_Rn_mapCell 12 = .ok (.iload_n 1, 1) := by decide +kernel
theorem d_Rn_mapCell_13 : decode b_Rn_mapCell 13 = .ok (.aaload, 1) := by decide +kernel
theorem d_Rn_mapCell_14 : decode b_Rn_mapCell 14 = .ok (.iload_n 2, 1) := by decide +kernel
theorem d_Rn_mapCell_15 : decode b_Rn_mapCell 15 = .ok (.laload, 1) := by decide +kernel
theorem d_Rn_mapCell_16 : decode b_Rn_mapCell 16 = .ok (.goto 4, 3) := by decide +kernel
theorem d_Rn_mapCell_19 : decode b_Rn_mapCell 19 = .ok (.lconst 0, 1) := by decide +kernel
theorem d_Rn_mapCell_20 : decode b_Rn_mapCell 20 = .ok (.lreturn, 1) := by decide +kernel
theorem d_Rn_setMapCell_0 : decode b_Rn_setMapCell 0 = .ok (.iload_n 1, 1) := by decide +kernel
theorem d_Rn_setMapCell_1 : decode b_Rn_setMapCell 1 = .ok (.iload_n 2, 1) := by decide +kernel
theorem d_Rn_setMapCell_2 : decode b_Rn_setMapCell 2 = .ok (.invokestatic 35, 3) := by decide +kernel
theorem d_Rn_setMapCell_5 : decode b_Rn_setMapCell 5 = .ok (.ifCond .eq 12, 3) := by decide +kernel
theorem d_Rn_setMapCell_8 : decode b_Rn_setMapCell 8 = .ok (.aload_n 0, 1) := by decide +kernel
theorem d_Rn_setMapCell_9 : decode b_Rn_setMapCell 9 = .ok (.getfield 17, 3) := by decide +kernel
theorem d_Rn_setMapCell_12 : decode b_Rn_setMapCell 12 = .ok (.iload_n 1, 1) := by decide +kernel
theorem d_Rn_setMapCell_13 : decode b_Rn_setMapCell 13 = .ok (.aaload, 1) := by decide +kernel
theorem d_Rn_setMapCell_14 : decode b_Rn_setMapCell 14 = .ok (.iload_n 2, 1) := by decide +kernel
theorem d_Rn_setMapCell_15 : decode b_Rn_setMapCell 15 = .ok (.lload_n 3, 1) := by decide +kernel
theorem d_Rn_setMapCell_16 : decode b_Rn_setMapCell 16 = .ok (.lastore, 1) := by decide +kernel
theorem d_Rn_setMapCell_17 : decode b_Rn_setMapCell 17 = .ok (.return_, 1) := by decide +kernel
theorem d_Rn_runThrough_0 : decode b_Rn_runThrough 0 = .ok (.iconst 0, 1) := by decide +kernel
theorem d_Rn_runThrough_1 : decode b_Rn_runThrough 1 = .ok (.istore_n 3, 1) := by decide +kernel
theorem d_Rn_runThrough_2 : decode b_Rn_runThrough 2 = .ok (.iload_n 3, 1) := by decide +kernel
theorem d_Rn_runThrough_3 : decode b_Rn_runThrough 3 = .ok (.bipush 12, 2) := by decide +kernel
theorem d_Rn_runThrough_5 : decode b_Rn_runThrough 5 = .ok (.if_icmp .ge 16, 3) := by decide +kernel
theorem d_Rn_runThrough_8 : decode b_Rn_runThrough 8 = .ok (.aload_n 0, 1) := by decide +kernel
theorem d_Rn_runThrough_9 : decode b_Rn_runThrough 9 = .ok (.iload_n 3, 1) := by decide +kernel
theorem d_Rn_runThrough_10 : decode b_Rn_runThrough 10 = .ok (.iconst 0, 1) := by decide +kernel
theorem d_Rn_runThrough_11 : decode b_Rn_runThrough 11 = .ok (.lconst 0, 1) := by decide +kernel
theorem d_Rn_runThrough_12 : decode b_Rn_runThrough 12 = .ok (.invokevirtual 39, 3) := by decide +kernel
theorem d_Rn_runThrough_15 : decode b_Rn_runThrough 15 = .ok (.iinc 3 1, 3) := by decide +kernel
theorem d_Rn_runThrough_18 : decode b_Rn_runThrough 18 = .ok (.goto (-16), 3) := by decide +kernel
theorem d_Rn_runThrough_21 : decode b_Rn_runThrough 21 = .ok (.aload_n 0, 1) := by decide +kernel
theorem d_Rn_runThrough_22 : decode b_Rn_runThrough 22 = .ok (.iconst 1, 1) := by decide +kernel
theorem d_Rn_runThrough_23 : decode b_Rn_runThrough 23 = .ok (.iconst 1, 1) := by decide +kernel
theorem d_Rn_runThrough_24 : decode b_Rn_runThrough 24 = .ok (.lload_n 1, 1) := by decide +kernel
theorem d_Rn_runThrough_25 : decode b_Rn_runThrough 25 = .ok (.invokevirtual 39, 3) := by decide +kernel
theorem d_Rn_runThrough_28 : decode b_Rn_runThrough 28 = .ok (.aload_n 0, 1) := by decide +kernel
theorem d_Rn_runThrough_29 : decode b_Rn_runThrough 29 = .ok (.iconst 2, 1) := by decide +kernel
theorem d_Rn_runThrough_30 : decode b_Rn_runThrough 30 = .ok (.iconst 2, 1) := by decide +kernel
theorem d_Rn_runThrough_31 : decode b_Rn_runThrough 31 = .ok (.lconst 0, 1) := by decide +kernel
theorem d_Rn_runThrough_32 : decode b_Rn_runThrough 32 = .ok (.invokevirtual 39, 3) := by decide +kernel
theorem d_Rn_runThrough_35 : decode b_Rn_runThrough 35 = .ok (.aload_n 0, 1) := by decide +kernel
theorem d_Rn_runThrough_36 : decode b_Rn_runThrough 36 = .ok (.iconst 0, 1) := by decide +kernel
theorem d_Rn_runThrough_37 : decode b_Rn_runThrough 37 = .ok (.putfield 28, 3) := by decide +kernel
theorem d_Rn_runThrough_40 : decode b_Rn_runThrough 40 = .ok (.iconst 0, 1) := by decide +kernel
theorem d_Rn_runThrough_41 : decode b_Rn_runThrough 41 = .ok (.istore_n 3, 1) := by decide +kernel
theorem d_Rn_runThrough_42 : decode b_Rn_runThrough 42 = .ok (.iconst 0, 1) := by decide +kernel
theorem d_Rn_runThrough_43 : decode b_Rn_runThrough 43 = .ok (.istore 4, 2) := by decide +kernel
theorem d_Rn_runThrough_45 : decode b_Rn_runThrough 45 = .ok (.iload 4, 2) := by decide +kernel
theorem d_Rn_runThrough_47 : decode b_Rn_runThrough 47 = .ok (.bipush 24, 2) := by decide +kernel
theorem d_Rn_runThrough_49 : decode b_Rn_runThrough 49 = .ok (.if_icmp .ge 30, 3) := by decide +kernel
theorem d_Rn_runThrough_52 : decode b_Rn_runThrough 52 = .ok (.iload_n 3, 1) := by decide +kernel
theorem d_Rn_runThrough_53 : decode b_Rn_runThrough 53 = .ok (.iconst (-1), 1) := by decide +kernel
theorem d_Rn_runThrough_54 : decode b_Rn_runThrough 54 = .ok (.if_icmp .eq 25, 3) := by decide +kernel
theorem d_Rn_runThrough_57 : decode b_Rn_runThrough 57 = .ok (.aload_n 0, 1) := by decide +kernel
theorem d_Rn_runThrough_58 : decode b_Rn_runThrough 58 = .ok (.dup, 1) := by decide +kernel
theorem d_Rn_runThrough_59 : decode b_Rn_runThrough 59 = .ok (.getfield 28, 3) := by decide +kernel
theorem d_Rn_runThrough_62 : decode b_Rn_runThrough 62 = .ok (.iconst 1, 1) := by decide +kernel
theorem d_Rn_runThrough_63 : decode b_Rn_runThrough 63 = .ok (.iadd, 1) := by decide +kernel
theorem d_Rn_runThrough_64 : decode b_Rn_runThrough 64 = .ok (.putfield 28, 3) := by decide +kernel
theorem d_Rn_runThrough_67 : decode b_Rn_runThrough 67 = .ok (.aload_n 0, 1) := by decide +kernel
theorem d_Rn_runThrough_68 : decode b_Rn_runThrough 68 = .ok (.iload_n 3, 1) := by decide +kernel
theorem d_Rn_runThrough_69 : decode b_Rn_runThrough 69 = .ok (.invokevirtual 43, 3) := by decide +kernel
theorem d_Rn_runThrough_72 : decode b_Rn_runThrough 72 = .ok (.istore_n 3, 1) := by decide +kernel
theorem d_Rn_runThrough_73 : decode b_Rn_runThrough 73 = .ok (.iinc 4 1, 3) := by decide +kernel
theorem d_Rn_runThrough_76 : decode b_Rn_runThrough 76 = .ok (.goto (-31), 3) := by decide +kernel
theorem d_Rn_runThrough_79 : decode b_Rn_runThrough 79 = .ok (.aload_n 0, 1) := by decide +kernel
theorem d_Rn_runThrough_80 : decode b_Rn_runThrough 80 = .ok (.getfield 24, 3) := by decide +kernel
theorem d_Rn_runThrough_83 : decode b_Rn_runThrough 83 = .ok (.iconst 0, 1) := by decide +kernel
theorem d_Rn_runThrough_84 : decode b_Rn_runThrough 84 = .ok (.laload, 1) := by decide +kernel
theorem d_Rn_runThrough_85 : decode b_Rn_runThrough 85 = .ok (.lreturn, 1) := by decide +kernel
theorem d_Rn_set_0 : decode b_Rn_set 0 = .ok (.aload_n 0, 1) := by decide +kernel
theorem d_Rn_set_1 : decode b_Rn_set 1 = .ok (.getfield 20, 3) := by decide +kernel
theorem d_Rn_set_4 : decode b_Rn_set 4 = .ok (.iload_n 1, 1) := by decide +kernel
theorem d_Rn_set_5 : decode b_Rn_set 5 = .ok (.iload_n 2, 1) := by decide +kernel
theorem d_Rn_set_6 : decode b_Rn_set 6 = .ok (.iastore, 1) := by decide +kernel
theorem d_Rn_set_7 : decode b_Rn_set 7 = .ok (.aload_n 0, 1) := by decide +kernel
theorem d_Rn_set_8 : decode b_Rn_set 8 = .ok (.getfield 24, 3) := by decide +kernel
theorem d_Rn_set_11 : decode b_Rn_set 11 = .ok (.iload_n 1, 1) := by decide +kernel
theorem d_Rn_set_12 : decode b_Rn_set 12 = .ok (.lload_n 3, 1) := by decide +kernel
theorem d_Rn_set_13 : decode b_Rn_set 13 = .ok (.lastore, 1) := by decide +kernel
theorem d_Rn_set_14 : decode b_Rn_set 14 = .ok (.return_, 1) := by decide +kernel
theorem d_Rn_runStep_0 : decode b_Rn_runStep 0 = .ok (.aload_n 0, 1) := by decide +kernel
theorem d_Rn_runStep_1 : decode b_Rn_runStep 1 = .ok (.getfield 9, 3) := by decide +kernel
theorem d_Rn_runStep_4 : decode b_Rn_runStep 4 = .ok (.iload_n 1, 1) := by decide +kernel
theorem d_Rn_runStep_5 : decode b_Rn_runStep 5 = .ok (.invokevirtual 47, 3) := by decide +kernel
theorem d_Rn_runStep_8 : decode b_Rn_runStep 8 = .ok (.astore_n 2, 1) := by decide +kernel
theorem d_Rn_runStep_9 : decode b_Rn_runStep 9 = .ok (.aload_n 2, 1) := by decide +kernel
theorem d_Rn_runStep_10 : decode b_Rn_runStep 10 = .ok (.ifnull 12, 3) := by decide +kernel
theorem d_Rn_runStep_13 : decode b_Rn_runStep 13 = .ok (.aload_n 2, 1) := by decide +kernel
theorem d_Rn_runStep_14 : decode b_Rn_runStep 14 = .ok (.getfield 53, 3) := by decide +kernel
theorem d_Rn_runStep_17 : decode b_Rn_runStep 17 = .ok (.bipush 17, 2) := by decide +kernel
theorem d_Rn_runStep_19 : decode b_Rn_runStep 19 = .ok (.if_icmp .ne 5, 3) := by decide +kernel
theorem d_Rn_runStep_22 : decode b_Rn_runStep 22 = .ok (.iconst (-1), 1) := by decide +kernel
theorem d_Rn_runStep_23 : decode b_Rn_runStep 23 = .ok (.ireturn, 1) := by decide +kernel
theorem d_Rn_runStep_24 : decode b_Rn_runStep 24 = .ok (.aload_n 2, 1) := by decide +kernel
theorem d_Rn_runStep_25 : decode b_Rn_runStep 25 = .ok (.invokevirtual 58, 3) := by decide +kernel
theorem d_Rn_runStep_28 : decode b_Rn_runStep 28 = .ok (.ifCond .eq 22, 3) := by decide +kernel
theorem d_Rn_runStep_31 : decode b_Rn_runStep 31 = .ok (.aload_n 0, 1) := by decide +kernel
theorem d_Rn_runStep_32 : decode b_Rn_runStep 32 = .ok (.aload_n 2, 1) := by decide +kernel
theorem d_Rn_runStep_33 : decode b_Rn_runStep 33 = .ok (.invokevirtual 62, 3) := by decide +kernel
theorem d_Rn_runStep_36 : decode b_Rn_runStep 36 = .ok (.ifCond .eq 10, 3) := by decide +kernel
theorem d_Rn_runStep_39 : decode b_Rn_runStep 39 = .ok (.aload_n 2, 1) := by decide +kernel
theorem d_Rn_runStep_40 : decode b_Rn_runStep 40 = .ok (.getfield 66, 3) := by decide +kernel
theorem d_Rn_runStep_43 : decode b_Rn_runStep 43 = .ok (.goto 6, 3) := by decide +kernel
theorem d_Rn_runStep_46 : decode b_Rn_runStep 46 = .ok (.iload_n 1, 1) := by decide +kernel
theorem d_Rn_runStep_47 : decode b_Rn_runStep 47 = .ok (.iconst 1, 1) := by decide +kernel
theorem d_Rn_runStep_48 : decode b_Rn_runStep 48 = .ok (.iadd, 1) := by decide +kernel
theorem d_Rn_runStep_49 : decode b_Rn_runStep 49 = .ok (.ireturn, 1) := by decide +kernel
theorem d_Rn_runStep_50 : decode b_Rn_runStep 50 = .ok (.aload_n 2, 1) := by decide +kernel
theorem d_Rn_runStep_51 : decode b_Rn_runStep 51 = .ok (.getfield 53, 3) := by decide +kernel
theorem d_Rn_runStep_54 : decode b_Rn_runStep 54 = .ok (.bipush 14, 2) := by decide +kernel
theorem d_Rn_runStep_56 : decode b_Rn_runStep 56 = .ok (.if_icmp .lt 11, 3) := by decide +kernel
theorem d_Rn_runStep_59 : decode b_Rn_runStep 59 = .ok (.aload_n 0, 1) := by decide +kernel
theorem d_Rn_runStep_60 : decode b_Rn_runStep 60 = .ok (.aload_n 2, 1) := by decide +kernel
theorem d_Rn_runStep_61 : decode b_Rn_runStep 61 = .ok (.invokevirtual 69, 3) := by decide +kernel
theorem d_Rn_runStep_64 : decode b_Rn_runStep 64 = .ok (.goto 8, 3) := by decide +kernel
theorem d_Rn_runStep_67 : decode b_Rn_runStep 67 = .ok (.aload_n 0, 1) := by decide +kernel
theorem d_Rn_runStep_68 : decode b_Rn_runStep 68 = .ok (.aload_n 2, 1) := by decide +kernel
theorem d_Rn_runStep_69 : decode b_Rn_runStep 69 = .ok (.invokevirtual 73, 3) := by decide +kernel
theorem d_Rn_runStep_72 : decode b_Rn_runStep 72 = .ok (.iload_n 1, 1) := by decide +kernel
theorem d_Rn_runStep_73 : decode b_Rn_runStep 73 = .ok (.iconst 1, 1) := by decide +kernel
theorem d_Rn_runStep_74 : decode b_Rn_runStep 74 = .ok (.iadd, 1) := by decide +kernel
theorem d_Rn_runStep_75 : decode b_Rn_runStep 75 = .ok (.ireturn, 1) := by decide +kernel
theorem d_Rn_jumps_0 : decode b_Rn_jumps 0 = .ok (.aload_n 1, 1) := by decide +kernel
theorem d_Rn_jumps_1 : decode b_Rn_jumps 1 = .ok (.getfield 53, 3) := by decide +kernel
theorem d_Rn_jumps_4 : decode b_Rn_jumps 4 = .ok (.tableswitch 117 10 12 #[28, 65, 89], 28) := by decide +kernel
theorem d_Rn_jumps_32 : decode b_Rn_jumps 32 = .ok (.aload_n 0, 1) := by decide +kernel
theorem d_Rn_jumps_33 : decode b_Rn_jumps 33 = .ok (.getfield 20, 3) := by decide +kernel
theorem d_Rn_jumps_36 : decode b_Rn_jumps 36 = .ok (.aload_n 1, 1) := by decide +kernel
theorem d_Rn_jumps_37 : decode b_Rn_jumps 37 = .ok (.getfield 76, 3) := by decide +kernel
theorem d_Rn_jumps_40 : decode b_Rn_jumps 40 = .ok (.iaload, 1) := by decide +kernel
theorem d_Rn_jumps_41 : decode b_Rn_jumps 41 = .ok (.iconst 1, 1) := by decide +kernel
theorem d_Rn_jumps_42 : decode b_Rn_jumps 42 = .ok (.if_icmp .ne 25, 3) := by decide +kernel
theorem d_Rn_jumps_45 : decode b_Rn_jumps 45 = .ok (.aload_n 0, 1) := by decide +kernel
theorem d_Rn_jumps_46 : decode b_Rn_jumps 46 = .ok (.getfield 24, 3) := by decide +kernel
theorem d_Rn_jumps_49 : decode b_Rn_jumps 49 = .ok (.aload_n 1, 1) := by decide +kernel
theorem d_Rn_jumps_50 : decode b_Rn_jumps 50 = .ok (.getfield 76, 3) := by decide +kernel
theorem d_Rn_jumps_53 : decode b_Rn_jumps 53 = .ok (.laload, 1) := by decide +kernel
theorem d_Rn_jumps_54 : decode b_Rn_jumps 54 = .ok (.aload_n 1, 1) := by decide +kernel
theorem d_Rn_jumps_55 : decode b_Rn_jumps 55 = .ok (.getfield 79, 3) := by decide +kernel
theorem d_Rn_jumps_58 : decode b_Rn_jumps 58 = .ok (.i2l, 1) := by decide +kernel
theorem d_Rn_jumps_59 : decode b_Rn_jumps 59 = .ok (.lcmp, 1) := by decide +kernel
theorem d_Rn_jumps_60 : decode b_Rn_jumps 60 = .ok (.ifCond .ne 7, 3) := by decide +kernel
theorem d_Rn_jumps_63 : decode b_Rn_jumps 63 = .ok (.iconst 1, 1) := by decide +kernel
theorem d_Rn_jumps_64 : decode b_Rn_jumps 64 = .ok (.goto 4, 3) := by decide +kernel
theorem d_Rn_jumps_67 : decode b_Rn_jumps 67 = .ok (.iconst 0, 1) := by decide +kernel
theorem d_Rn_jumps_68 : decode b_Rn_jumps 68 = .ok (.ireturn, 1) := by decide +kernel
theorem d_Rn_jumps_69 : decode b_Rn_jumps 69 = .ok (.aload_n 0, 1) := by decide +kernel
theorem d_Rn_jumps_70 : decode b_Rn_jumps 70 = .ok (.getfield 24, 3) := by decide +kernel
theorem d_Rn_jumps_73 : decode b_Rn_jumps 73 = .ok (.aload_n 1, 1) := by decide +kernel
theorem d_Rn_jumps_74 : decode b_Rn_jumps 74 = .ok (.getfield 76, 3) := by decide +kernel
theorem d_Rn_jumps_77 : decode b_Rn_jumps 77 = .ok (.laload, 1) := by decide +kernel
theorem d_Rn_jumps_78 : decode b_Rn_jumps 78 = .ok (.aload_n 1, 1) := by decide +kernel
theorem d_Rn_jumps_79 : decode b_Rn_jumps 79 = .ok (.getfield 79, 3) := by decide +kernel
theorem d_Rn_jumps_82 : decode b_Rn_jumps 82 = .ok (.i2l, 1) := by decide +kernel
theorem d_Rn_jumps_83 : decode b_Rn_jumps 83 = .ok (.lcmp, 1) := by decide +kernel
theorem d_Rn_jumps_84 : decode b_Rn_jumps 84 = .ok (.ifCond .le 7, 3) := by decide +kernel
theorem d_Rn_jumps_87 : decode b_Rn_jumps 87 = .ok (.iconst 1, 1) := by decide +kernel
theorem d_Rn_jumps_88 : decode b_Rn_jumps 88 = .ok (.goto 4, 3) := by decide +kernel
theorem d_Rn_jumps_91 : decode b_Rn_jumps 91 = .ok (.iconst 0, 1) := by decide +kernel
theorem d_Rn_jumps_92 : decode b_Rn_jumps 92 = .ok (.ireturn, 1) := by decide +kernel
theorem d_Rn_jumps_93 : decode b_Rn_jumps 93 = .ok (.aload_n 0, 1) := by decide +kernel
theorem d_Rn_jumps_94 : decode b_Rn_jumps 94 = .ok (.getfield 24, 3) := by decide +kernel
theorem d_Rn_jumps_97 : decode b_Rn_jumps 97 = .ok (.aload_n 1, 1) := by decide +kernel
theorem d_Rn_jumps_98 : decode b_Rn_jumps 98 = .ok (.getfield 76, 3) := by decide +kernel
theorem d_Rn_jumps_101 : decode b_Rn_jumps 101 = .ok (.laload, 1) := by decide +kernel
theorem d_Rn_jumps_102 : decode b_Rn_jumps 102 = .ok (.aload_n 0, 1) := by decide +kernel
theorem d_Rn_jumps_103 : decode b_Rn_jumps 103 = .ok (.getfield 24, 3) := by decide +kernel
theorem d_Rn_jumps_106 : decode b_Rn_jumps 106 = .ok (.aload_n 1, 1) := by decide +kernel
theorem d_Rn_jumps_107 : decode b_Rn_jumps 107 = .ok (.getfield 82, 3) := by decide +kernel
theorem d_Rn_jumps_110 : decode b_Rn_jumps 110 = .ok (.laload, 1) := by decide +kernel
theorem d_Rn_jumps_111 : decode b_Rn_jumps 111 = .ok (.lcmp, 1) := by decide +kernel
theorem d_Rn_jumps_112 : decode b_Rn_jumps 112 = .ok (.ifCond .ge 7, 3) := by decide +kernel
theorem d_Rn_jumps_115 : decode b_Rn_jumps 115 = .ok (.iconst 1, 1) := by decide +kernel
theorem d_Rn_jumps_116 : decode b_Rn_jumps 116 = .ok (.goto 4, 3) := by decide +kernel
theorem d_Rn_jumps_119 : decode b_Rn_jumps 119 = .ok (.iconst 0, 1) := by decide +kernel
theorem d_Rn_jumps_120 : decode b_Rn_jumps 120 = .ok (.ireturn, 1) := by decide +kernel
theorem d_Rn_jumps_121 : decode b_Rn_jumps 121 = .ok (.iconst 1, 1) := by decide +kernel
theorem d_Rn_jumps_122 : decode b_Rn_jumps 122 = .ok (.ireturn, 1) := by decide +kernel
theorem d_Rn_reckon_0 : decode b_Rn_reckon 0 = .ok (.aload_n 1, 1) := by decide +kernel
theorem d_Rn_reckon_1 : decode b_Rn_reckon 1 = .ok (.getfield 76, 3) := by decide +kernel
theorem d_Rn_reckon_4 : decode b_Rn_reckon 4 = .ok (.istore_n 2, 1) := by decide +kernel
theorem d_Rn_reckon_5 : decode b_Rn_reckon 5 = .ok (.aload_n 1, 1) := by decide +kernel
theorem d_Rn_reckon_6 : decode b_Rn_reckon 6 = .ok (.getfield 79, 3) := by decide +kernel
theorem d_Rn_reckon_9 : decode b_Rn_reckon 9 = .ok (.i2l, 1) := by decide +kernel
theorem d_Rn_reckon_10 : decode b_Rn_reckon 10 = .ok (.lstore_n 3, 1) := by decide +kernel
theorem d_Rn_reckon_11 : decode b_Rn_reckon 11 = .ok (.aload_n 1, 1) := by decide +kernel
theorem d_Rn_reckon_12 : decode b_Rn_reckon 12 = .ok (.getfield 53, 3) := by decide +kernel
theorem d_Rn_reckon_15 : decode b_Rn_reckon 15 = .ok (.tableswitch 229 0 9 #[53, 63, 89, 102, 123, 144, 157, 170, 186, 213], 53) := by decide +kernel
theorem d_Rn_reckon_68 : decode b_Rn_reckon 68 = .ok (.aload_n 0, 1) := by decide +kernel
theorem d_Rn_reckon_69 : decode b_Rn_reckon 69 = .ok (.iload_n 2, 1) := by decide +kernel
theorem d_Rn_reckon_70 : decode b_Rn_reckon 70 = .ok (.iconst 1, 1) := by decide +kernel
theorem d_Rn_reckon_71 : decode b_Rn_reckon 71 = .ok (.lload_n 3, 1) := by decide +kernel
theorem d_Rn_reckon_72 : decode b_Rn_reckon 72 = .ok (.invokevirtual 39, 3) := by decide +kernel
theorem d_Rn_reckon_75 : decode b_Rn_reckon 75 = .ok (.goto 169, 3) := by decide +kernel
theorem d_Rn_reckon_78 : decode b_Rn_reckon 78 = .ok (.aload_n 0, 1) := by decide +kernel
theorem d_Rn_reckon_79 : decode b_Rn_reckon 79 = .ok (.iload_n 2, 1) := by decide +kernel
theorem d_Rn_reckon_80 : decode b_Rn_reckon 80 = .ok (.aload_n 0, 1) := by decide +kernel
theorem d_Rn_reckon_81 : decode b_Rn_reckon 81 = .ok (.getfield 20, 3) := by decide +kernel
theorem d_Rn_reckon_84 : decode b_Rn_reckon 84 = .ok (.aload_n 1, 1) := by decide +kernel
theorem d_Rn_reckon_85 : decode b_Rn_reckon 85 = .ok (.getfield 82, 3) := by decide +kernel
theorem d_Rn_reckon_88 : decode b_Rn_reckon 88 = .ok (.iaload, 1) := by decide +kernel
theorem d_Rn_reckon_89 : decode b_Rn_reckon 89 = .ok (.aload_n 0, 1) := by decide +kernel
theorem d_Rn_reckon_90 : decode b_Rn_reckon 90 = .ok (.getfield 24, 3) := by decide +kernel
theorem d_Rn_reckon_93 : decode b_Rn_reckon 93 = .ok (.aload_n 1, 1) := by decide +kernel
theorem d_Rn_reckon_94 : decode b_Rn_reckon 94 = .ok (.getfield 82, 3) := by decide +kernel
theorem d_Rn_reckon_97 : decode b_Rn_reckon 97 = .ok (.laload, 1) := by decide +kernel
theorem d_Rn_reckon_98 : decode b_Rn_reckon 98 = .ok (.invokevirtual 39, 3) := by decide +kernel
theorem d_Rn_reckon_101 : decode b_Rn_reckon 101 = .ok (.goto 143, 3) := by decide +kernel
theorem d_Rn_reckon_104 : decode b_Rn_reckon 104 = .ok (.aload_n 0, 1) := by decide +kernel
theorem d_Rn_reckon_105 : decode b_Rn_reckon 105 = .ok (.getfield 24, 3) := by decide +kernel
theorem d_Rn_reckon_108 : decode b_Rn_reckon 108 = .ok (.iload_n 2, 1) := by decide +kernel
theorem d_Rn_reckon_109 : decode b_Rn_reckon 109 = .ok (.dup2, 1) := by decide +kernel
theorem d_Rn_reckon_110 : decode b_Rn_reckon 110 = .ok (.laload, 1) := by decide +kernel
theorem d_Rn_reckon_111 : decode b_Rn_reckon 111 = .ok (.lload_n 3, 1) := by decide +kernel
theorem d_Rn_reckon_112 : decode b_Rn_reckon 112 = .ok (.ladd, 1) := by decide +kernel
theorem d_Rn_reckon_113 : decode b_Rn_reckon 113 = .ok (.lastore, 1) := by decide +kernel
theorem d_Rn_reckon_114 : decode b_Rn_reckon 114 = .ok (.goto 130, 3) := by decide +kernel
theorem d_Rn_reckon_117 : decode b_Rn_reckon 117 = .ok (.aload_n 0, 1) := by decide +kernel
theorem d_Rn_reckon_118 : decode b_Rn_reckon 118 = .ok (.getfield 24, 3) := by decide +kernel
theorem d_Rn_reckon_121 : decode b_Rn_reckon 121 = .ok (.iload_n 2, 1) := by decide +kernel
theorem d_Rn_reckon_122 : decode b_Rn_reckon 122 = .ok (.dup2, 1) := by decide +kernel
theorem d_Rn_reckon_123 : decode b_Rn_reckon 123 = .ok (.laload, 1) := by decide +kernel
theorem d_Rn_reckon_124 : decode b_Rn_reckon 124 = .ok (.aload_n 0, 1) := by decide +kernel
theorem d_Rn_reckon_125 : decode b_Rn_reckon 125 = .ok (.getfield 24, 3) := by decide +kernel
theorem d_Rn_reckon_128 : decode b_Rn_reckon 128 = .ok (.aload_n 1, 1) := by decide +kernel
theorem d_Rn_reckon_129 : decode b_Rn_reckon 129 = .ok (.getfield 82, 3) := by decide +kernel
theorem d_Rn_reckon_132 : decode b_Rn_reckon 132 = .ok (.laload, 1) := by decide +kernel
theorem d_Rn_reckon_133 : decode b_Rn_reckon 133 = .ok (.ladd, 1) := by decide +kernel
theorem d_Rn_reckon_134 : decode b_Rn_reckon 134 = .ok (.lastore, 1) := by decide +kernel
theorem d_Rn_reckon_135 : decode b_Rn_reckon 135 = .ok (.goto 109, 3) := by decide +kernel
theorem d_Rn_reckon_138 : decode b_Rn_reckon 138 = .ok (.aload_n 0, 1) := by decide +kernel
theorem d_Rn_reckon_139 : decode b_Rn_reckon 139 = .ok (.getfield 24, 3) := by decide +kernel
theorem d_Rn_reckon_142 : decode b_Rn_reckon 142 = .ok (.iload_n 2, 1) := by decide +kernel
theorem d_Rn_reckon_143 : decode b_Rn_reckon 143 = .ok (.dup2, 1) := by decide +kernel
theorem d_Rn_reckon_144 : decode b_Rn_reckon 144 = .ok (.laload, 1) := by decide +kernel
theorem d_Rn_reckon_145 : decode b_Rn_reckon 145 = .ok (.aload_n 0, 1) := by decide +kernel
theorem d_Rn_reckon_146 : decode b_Rn_reckon 146 = .ok (.getfield 24, 3) := by decide +kernel
theorem d_Rn_reckon_149 : decode b_Rn_reckon 149 = .ok (.aload_n 1, 1) := by decide +kernel
theorem d_Rn_reckon_150 : decode b_Rn_reckon 150 = .ok (.getfield 82, 3) := by decide +kernel
theorem d_Rn_reckon_153 : decode b_Rn_reckon 153 = .ok (.laload, 1) := by decide +kernel
theorem d_Rn_reckon_154 : decode b_Rn_reckon 154 = .ok (.lsub, 1) := by decide +kernel
theorem d_Rn_reckon_155 : decode b_Rn_reckon 155 = .ok (.lastore, 1) := by decide +kernel
theorem d_Rn_reckon_156 : decode b_Rn_reckon 156 = .ok (.goto 88, 3) := by decide +kernel
theorem d_Rn_reckon_159 : decode b_Rn_reckon 159 = .ok (.aload_n 0, 1) := by decide +kernel
theorem d_Rn_reckon_160 : decode b_Rn_reckon 160 = .ok (.getfield 24, 3) := by decide +kernel
theorem d_Rn_reckon_163 : decode b_Rn_reckon 163 = .ok (.iload_n 2, 1) := by decide +kernel
theorem d_Rn_reckon_164 : decode b_Rn_reckon 164 = .ok (.dup2, 1) := by decide +kernel
theorem d_Rn_reckon_165 : decode b_Rn_reckon 165 = .ok (.laload, 1) := by decide +kernel
theorem d_Rn_reckon_166 : decode b_Rn_reckon 166 = .ok (.lload_n 3, 1) := by decide +kernel
theorem d_Rn_reckon_167 : decode b_Rn_reckon 167 = .ok (.lmul, 1) := by decide +kernel
theorem d_Rn_reckon_168 : decode b_Rn_reckon 168 = .ok (.lastore, 1) := by decide +kernel
theorem d_Rn_reckon_169 : decode b_Rn_reckon 169 = .ok (.goto 75, 3) := by decide +kernel
theorem d_Rn_reckon_172 : decode b_Rn_reckon 172 = .ok (.aload_n 0, 1) := by decide +kernel
theorem d_Rn_reckon_173 : decode b_Rn_reckon 173 = .ok (.getfield 24, 3) := by decide +kernel
theorem d_Rn_reckon_176 : decode b_Rn_reckon 176 = .ok (.iload_n 2, 1) := by decide +kernel
theorem d_Rn_reckon_177 : decode b_Rn_reckon 177 = .ok (.dup2, 1) := by decide +kernel
theorem d_Rn_reckon_178 : decode b_Rn_reckon 178 = .ok (.laload, 1) := by decide +kernel
theorem d_Rn_reckon_179 : decode b_Rn_reckon 179 = .ok (.lload_n 3, 1) := by decide +kernel
theorem d_Rn_reckon_180 : decode b_Rn_reckon 180 = .ok (.land, 1) := by decide +kernel
theorem d_Rn_reckon_181 : decode b_Rn_reckon 181 = .ok (.lastore, 1) := by decide +kernel
theorem d_Rn_reckon_182 : decode b_Rn_reckon 182 = .ok (.goto 62, 3) := by decide +kernel
theorem d_Rn_reckon_185 : decode b_Rn_reckon 185 = .ok (.aload_n 0, 1) := by decide +kernel
theorem d_Rn_reckon_186 : decode b_Rn_reckon 186 = .ok (.getfield 24, 3) := by decide +kernel
theorem d_Rn_reckon_189 : decode b_Rn_reckon 189 = .ok (.iload_n 2, 1) := by decide +kernel
theorem d_Rn_reckon_190 : decode b_Rn_reckon 190 = .ok (.dup2, 1) := by decide +kernel
theorem d_Rn_reckon_191 : decode b_Rn_reckon 191 = .ok (.laload, 1) := by decide +kernel
theorem d_Rn_reckon_192 : decode b_Rn_reckon 192 = .ok (.aload_n 1, 1) := by decide +kernel
theorem d_Rn_reckon_193 : decode b_Rn_reckon 193 = .ok (.getfield 79, 3) := by decide +kernel
theorem d_Rn_reckon_196 : decode b_Rn_reckon 196 = .ok (.lshr, 1) := by decide +kernel
theorem d_Rn_reckon_197 : decode b_Rn_reckon 197 = .ok (.lastore, 1) := by decide +kernel
theorem d_Rn_reckon_198 : decode b_Rn_reckon 198 = .ok (.goto 46, 3) := by decide +kernel
theorem d_Rn_reckon_201 : decode b_Rn_reckon 201 = .ok (.aload_n 0, 1) := by decide +kernel
theorem d_Rn_reckon_202 : decode b_Rn_reckon 202 = .ok (.getfield 24, 3) := by decide +kernel
theorem d_Rn_reckon_205 : decode b_Rn_reckon 205 = .ok (.iload_n 2, 1) := by decide +kernel
theorem d_Rn_reckon_206 : decode b_Rn_reckon 206 = .ok (.lload_n 3, 1) := by decide +kernel
theorem d_Rn_reckon_207 : decode b_Rn_reckon 207 = .ok (.lconst 0, 1) := by decide +kernel
theorem d_Rn_reckon_208 : decode b_Rn_reckon 208 = .ok (.lcmp, 1) := by decide +kernel
theorem d_Rn_reckon_209 : decode b_Rn_reckon 209 = .ok (.ifCond .ne 7, 3) := by decide +kernel
theorem d_Rn_reckon_212 : decode b_Rn_reckon 212 = .ok (.lconst 0, 1) := by decide +kernel
theorem d_Rn_reckon_213 : decode b_Rn_reckon 213 = .ok (.goto 11, 3) := by decide +kernel
theorem d_Rn_reckon_216 : decode b_Rn_reckon 216 = .ok (.aload_n 0, 1) := by decide +kernel
theorem d_Rn_reckon_217 : decode b_Rn_reckon 217 = .ok (.getfield 24, 3) := by decide +kernel
theorem d_Rn_reckon_220 : decode b_Rn_reckon 220 = .ok (.iload_n 2, 1) := by decide +kernel
theorem d_Rn_reckon_221 : decode b_Rn_reckon 221 = .ok (.laload, 1) := by decide +kernel
theorem d_Rn_reckon_222 : decode b_Rn_reckon 222 = .ok (.lload_n 3, 1) := by decide +kernel
theorem d_Rn_reckon_223 : decode b_Rn_reckon 223 = .ok (.ldiv, 1) := by decide +kernel
theorem d_Rn_reckon_224 : decode b_Rn_reckon 224 = .ok (.lastore, 1) := by decide +kernel
theorem d_Rn_reckon_225 : decode b_Rn_reckon 225 = .ok (.goto 19, 3) := by decide +kernel
theorem d_Rn_reckon_228 : decode b_Rn_reckon 228 = .ok (.aload_n 0, 1) := by decide +kernel
theorem d_Rn_reckon_229 : decode b_Rn_reckon 229 = .ok (.getfield 24, 3) := by decide +kernel
theorem d_Rn_reckon_232 : decode b_Rn_reckon 232 = .ok (.iload_n 2, 1) := by decide +kernel
theorem d_Rn_reckon_233 : decode b_Rn_reckon 233 = .ok (.aload_n 0, 1) := by decide +kernel
theorem d_Rn_reckon_234 : decode b_Rn_reckon 234 = .ok (.getfield 24, 3) := by decide +kernel
theorem d_Rn_reckon_237 : decode b_Rn_reckon 237 = .ok (.iload_n 2, 1) := by decide +kernel
theorem d_Rn_reckon_238 : decode b_Rn_reckon 238 = .ok (.laload, 1) := by decide +kernel
theorem d_Rn_reckon_239 : decode b_Rn_reckon 239 = .ok (.lneg, 1) := by decide +kernel
theorem d_Rn_reckon_240 : decode b_Rn_reckon 240 = .ok (.lastore, 1) := by decide +kernel
theorem d_Rn_reckon_241 : decode b_Rn_reckon 241 = .ok (.goto 3, 3) := by decide +kernel
theorem d_Rn_reckon_244 : decode b_Rn_reckon 244 = .ok (.return_, 1) := by decide +kernel
theorem d_Rn_reachOut_0 : decode b_Rn_reachOut 0 = .ok (.aload_n 1, 1) := by decide +kernel
theorem d_Rn_reachOut_1 : decode b_Rn_reachOut 1 = .ok (.getfield 53, 3) := by decide +kernel
theorem d_Rn_reachOut_4 : decode b_Rn_reachOut 4 = .ok (.bipush 14, 2) := by decide +kernel
theorem d_Rn_reachOut_6 : decode b_Rn_reachOut 6 = .ok (.if_icmp .ne 38, 3) := by decide +kernel
theorem d_Rn_reachOut_9 : decode b_Rn_reachOut 9 = .ok (.aload_n 0, 1) := by decide +kernel
theorem d_Rn_reachOut_10 : decode b_Rn_reachOut 10 = .ok (.aload_n 1, 1) := by decide +kernel
theorem d_Rn_reachOut_11 : decode b_Rn_reachOut 11 = .ok (.getfield 76, 3) := by decide +kernel
theorem d_Rn_reachOut_14 : decode b_Rn_reachOut 14 = .ok (.aload_n 0, 1) := by decide +kernel
theorem d_Rn_reachOut_15 : decode b_Rn_reachOut 15 = .ok (.getfield 20, 3) := by decide +kernel
theorem d_Rn_reachOut_18 : decode b_Rn_reachOut 18 = .ok (.aload_n 1, 1) := by decide +kernel
theorem d_Rn_reachOut_19 : decode b_Rn_reachOut 19 = .ok (.getfield 82, 3) := by decide +kernel
theorem d_Rn_reachOut_22 : decode b_Rn_reachOut 22 = .ok (.iaload, 1) := by decide +kernel
theorem d_Rn_reachOut_23 : decode b_Rn_reachOut 23 = .ok (.aload_n 0, 1) := by decide +kernel
theorem d_Rn_reachOut_24 : decode b_Rn_reachOut 24 = .ok (.getfield 24, 3) := by decide +kernel
theorem d_Rn_reachOut_27 : decode b_Rn_reachOut 27 = .ok (.aload_n 1, 1) := by decide +kernel
theorem d_Rn_reachOut_28 : decode b_Rn_reachOut 28 = .ok (.getfield 82, 3) := by decide +kernel
theorem d_Rn_reachOut_31 : decode b_Rn_reachOut 31 = .ok (.laload, 1) := by decide +kernel
theorem d_Rn_reachOut_32 : decode b_Rn_reachOut 32 = .ok (.aload_n 1, 1) := by decide +kernel
theorem d_Rn_reachOut_33 : decode b_Rn_reachOut 33 = .ok (.getfield 79, 3) := by decide +kernel
theorem d_Rn_reachOut_36 : decode b_Rn_reachOut 36 = .ok (.i2l, 1) := by decide +kernel
theorem d_Rn_reachOut_37 : decode b_Rn_reachOut 37 = .ok (.ladd, 1) := by decide +kernel
theorem d_Rn_reachOut_38 : decode b_Rn_reachOut 38 = .ok (.invokevirtual 85, 3) := by decide +kernel
theorem d_Rn_reachOut_41 : decode b_Rn_reachOut 41 = .ok (.goto 55, 3) := by decide +kernel
theorem d_Rn_reachOut_44 : decode b_Rn_reachOut 44 = .ok (.aload_n 1, 1) := by decide +kernel
theorem d_Rn_reachOut_45 : decode b_Rn_reachOut 45 = .ok (.getfield 53, 3) := by decide +kernel
theorem d_Rn_reachOut_48 : decode b_Rn_reachOut 48 = .ok (.bipush 15, 2) := by decide +kernel
theorem d_Rn_reachOut_50 : decode b_Rn_reachOut 50 = .ok (.if_icmp .ne 38, 3) := by decide +kernel
theorem d_Rn_reachOut_53 : decode b_Rn_reachOut 53 = .ok (.aload_n 0, 1) := by decide +kernel
theorem d_Rn_reachOut_54 : decode b_Rn_reachOut 54 = .ok (.aload_n 1, 1) := by decide +kernel
theorem d_Rn_reachOut_55 : decode b_Rn_reachOut 55 = .ok (.getfield 82, 3) := by decide +kernel
theorem d_Rn_reachOut_58 : decode b_Rn_reachOut 58 = .ok (.aload_n 0, 1) := by decide +kernel
theorem d_Rn_reachOut_59 : decode b_Rn_reachOut 59 = .ok (.getfield 20, 3) := by decide +kernel
theorem d_Rn_reachOut_62 : decode b_Rn_reachOut 62 = .ok (.aload_n 1, 1) := by decide +kernel
theorem d_Rn_reachOut_63 : decode b_Rn_reachOut 63 = .ok (.getfield 76, 3) := by decide +kernel
theorem d_Rn_reachOut_66 : decode b_Rn_reachOut 66 = .ok (.iaload, 1) := by decide +kernel
theorem d_Rn_reachOut_67 : decode b_Rn_reachOut 67 = .ok (.aload_n 0, 1) := by decide +kernel
theorem d_Rn_reachOut_68 : decode b_Rn_reachOut 68 = .ok (.getfield 24, 3) := by decide +kernel
theorem d_Rn_reachOut_71 : decode b_Rn_reachOut 71 = .ok (.aload_n 1, 1) := by decide +kernel
theorem d_Rn_reachOut_72 : decode b_Rn_reachOut 72 = .ok (.getfield 76, 3) := by decide +kernel
theorem d_Rn_reachOut_75 : decode b_Rn_reachOut 75 = .ok (.laload, 1) := by decide +kernel
theorem d_Rn_reachOut_76 : decode b_Rn_reachOut 76 = .ok (.aload_n 1, 1) := by decide +kernel
theorem d_Rn_reachOut_77 : decode b_Rn_reachOut 77 = .ok (.getfield 79, 3) := by decide +kernel
theorem d_Rn_reachOut_80 : decode b_Rn_reachOut 80 = .ok (.i2l, 1) := by decide +kernel
theorem d_Rn_reachOut_81 : decode b_Rn_reachOut 81 = .ok (.ladd, 1) := by decide +kernel
theorem d_Rn_reachOut_82 : decode b_Rn_reachOut 82 = .ok (.invokevirtual 88, 3) := by decide +kernel
theorem d_Rn_reachOut_85 : decode b_Rn_reachOut 85 = .ok (.goto 11, 3) := by decide +kernel
theorem d_Rn_reachOut_88 : decode b_Rn_reachOut 88 = .ok (.aload_n 0, 1) := by decide +kernel
theorem d_Rn_reachOut_89 : decode b_Rn_reachOut 89 = .ok (.aload_n 1, 1) := by decide +kernel
theorem d_Rn_reachOut_90 : decode b_Rn_reachOut 90 = .ok (.getfield 79, 3) := by decide +kernel
theorem d_Rn_reachOut_93 : decode b_Rn_reachOut 93 = .ok (.invokevirtual 91, 3) := by decide +kernel
theorem d_Rn_reachOut_96 : decode b_Rn_reachOut 96 = .ok (.return_, 1) := by decide +kernel
theorem d_Rn_load_0 : decode b_Rn_load 0 = .ok (.iload_n 2, 1) := by decide +kernel
theorem d_Rn_load_1 : decode b_Rn_load 1 = .ok (.iconst 2, 1) := by decide +kernel
theorem d_Rn_load_2 : decode b_Rn_load 2 = .ok (.if_icmp .eq 21, 3) := by decide +kernel
theorem d_Rn_load_5 : decode b_Rn_load 5 = .ok (.aload_n 0, 1) := by decide +kernel
theorem d_Rn_load_6 : decode b_Rn_load 6 = .ok (.iload_n 1, 1) := by decide +kernel
theorem d_Rn_load_7 : decode b_Rn_load 7 = .ok (.iconst 1, 1) := by decide +kernel
theorem d_Rn_load_8 : decode b_Rn_load 8 = .ok (.aload_n 0, 1) := by decide +kernel
theorem d_Rn_load_9 : decode b_Rn_load 9 = .ok (.iload_n 2, 1) := by decide +kernel
theorem d_Rn_load_10 : decode b_Rn_load 10 = .ok (.iconst 3, 1) := by decide +kernel
theorem d_Rn_load_11 : decode b_Rn_load 11 = .ok (.isub, 1) := by decide +kernel
theorem d_Rn_load_12 : decode b_Rn_load 12 = .ok (.lload_n 3, 1) := by decide +kernel
theorem d_Rn_load_13 : decode b_Rn_load 13 = .ok (.l2i, 1) := by decide +kernel
theorem d_Rn_load_14 : decode b_Rn_load 14 = .ok (.invokevirtual 95, 3) := by decide +kernel
theorem d_Rn_load_17 : decode b_Rn_load 17 = .ok (.invokevirtual 39, 3) := by decide +kernel
theorem d_Rn_load_20 : decode b_Rn_load 20 = .ok (.goto 43, 3) := by decide +kernel
theorem d_Rn_load_23 : decode b_Rn_load 23 = .ok (.lload_n 3, 1) := by decide +kernel
theorem d_Rn_load_24 : decode b_Rn_load 24 = .ok (.lconst 0, 1) := by decide +kernel
theorem d_Rn_load_25 : decode b_Rn_load 25 = .ok (.lcmp, 1) := by decide +kernel
theorem d_Rn_load_26 : decode b_Rn_load 26 = .ok (.ifCond .lt 37, 3) := by decide +kernel
theorem d_Rn_load_29 : decode b_Rn_load 29 = .ok (.lload_n 3, 1) := by decide +kernel
theorem d_Rn_load_30 : decode b_Rn_load 30 = .ok (.ldc2_w 99, 3) := by decide +kernel
theorem d_Rn_load_33 : decode b_Rn_load 33 = .ok (.lcmp, 1) := by decide +kernel
theorem d_Rn_load_34 : decode b_Rn_load 34 = .ok (.ifCond .ge 29, 3) := by decide +kernel
theorem d_Rn_load_37 : decode b_Rn_load 37 = .ok (.bipush 6, 2) := by decide +kernel
theorem d_Rn_load_39 : decode b_Rn_load 39 = .ok (.lload_n 3, 1) := by decide +kernel
theorem d_Rn_load_40 : decode b_Rn_load 40 = .ok (.l2i, 1) := by decide +kernel
theorem d_Rn_load_41 : decode b_Rn_load 41 = .ok (.iadd, 1) := by decide +kernel
theorem d_Rn_load_42 : decode b_Rn_load 42 = .ok (.istore 5, 2) := by decide +kernel
theorem d_Rn_load_44 : decode b_Rn_load 44 = .ok (.aload_n 0, 1) := by decide +kernel
theorem d_Rn_load_45 : decode b_Rn_load 45 = .ok (.iload_n 1, 1) := by decide +kernel
theorem d_Rn_load_46 : decode b_Rn_load 46 = .ok (.aload_n 0, 1) := by decide +kernel
theorem d_Rn_load_47 : decode b_Rn_load 47 = .ok (.getfield 20, 3) := by decide +kernel
theorem d_Rn_load_50 : decode b_Rn_load 50 = .ok (.iload 5, 2) := by decide +kernel
theorem d_Rn_load_52 : decode b_Rn_load 52 = .ok (.iaload, 1) := by decide +kernel
theorem d_Rn_load_53 : decode b_Rn_load 53 = .ok (.aload_n 0, 1) := by decide +kernel
theorem d_Rn_load_54 : decode b_Rn_load 54 = .ok (.getfield 24, 3) := by decide +kernel
theorem d_Rn_load_57 : decode b_Rn_load 57 = .ok (.iload 5, 2) := by decide +kernel
theorem d_Rn_load_59 : decode b_Rn_load 59 = .ok (.laload, 1) := by decide +kernel
theorem d_Rn_load_60 : decode b_Rn_load 60 = .ok (.invokevirtual 39, 3) := by decide +kernel
theorem d_Rn_load_63 : decode b_Rn_load 63 = .ok (.return_, 1) := by decide +kernel
theorem d_Rn_store_0 : decode b_Rn_store 0 = .ok (.iload_n 2, 1) := by decide +kernel
theorem d_Rn_store_1 : decode b_Rn_store 1 = .ok (.iconst 2, 1) := by decide +kernel
theorem d_Rn_store_2 : decode b_Rn_store 2 = .ok (.if_icmp .eq 21, 3) := by decide +kernel
theorem d_Rn_store_5 : decode b_Rn_store 5 = .ok (.aload_n 0, 1) := by decide +kernel
theorem d_Rn_store_6 : decode b_Rn_store 6 = .ok (.iload_n 2, 1) := by decide +kernel
theorem d_Rn_store_7 : decode b_Rn_store 7 = .ok (.iconst 3, 1) := by decide +kernel
theorem d_Rn_store_8 : decode b_Rn_store 8 = .ok (.isub, 1) := by decide +kernel
theorem d_Rn_store_9 : decode b_Rn_store 9 = .ok (.lload_n 3, 1) := by decide +kernel
theorem d_Rn_store_10 : decode b_Rn_store 10 = .ok (.l2i, 1) := by decide +kernel
theorem d_Rn_store_11 : decode b_Rn_store 11 = .ok (.aload_n 0, 1) := by decide +kernel
theorem d_Rn_store_12 : decode b_Rn_store 12 = .ok (.getfield 24, 3) := by decide +kernel
theorem d_Rn_store_15 : decode b_Rn_store 15 = .ok (.iload_n 1, 1) := by decide +kernel
theorem d_Rn_store_16 : decode b_Rn_store 16 = .ok (.laload, 1) := by decide +kernel
theorem d_Rn_store_17 : decode b_Rn_store 17 = .ok (.invokevirtual 101, 3) := by decide +kernel
theorem d_Rn_store_20 : decode b_Rn_store 20 = .ok (.goto 38, 3) := by decide +kernel
theorem d_Rn_store_23 : decode b_Rn_store 23 = .ok (.lload_n 3, 1) := by decide +kernel
theorem d_Rn_store_24 : decode b_Rn_store 24 = .ok (.lconst 0, 1) := by decide +kernel
theorem d_Rn_store_25 : decode b_Rn_store 25 = .ok (.lcmp, 1) := by decide +kernel
theorem d_Rn_store_26 : decode b_Rn_store 26 = .ok (.ifCond .lt 32, 3) := by decide +kernel
theorem d_Rn_store_29 : decode b_Rn_store 29 = .ok (.lload_n 3, 1) := by decide +kernel
theorem d_Rn_store_30 : decode b_Rn_store 30 = .ok (.ldc2_w 99, 3) := by decide +kernel
theorem d_Rn_store_33 : decode b_Rn_store 33 = .ok (.lcmp, 1) := by decide +kernel
theorem d_Rn_store_34 : decode b_Rn_store 34 = .ok (.ifCond .ge 24, 3) := by decide +kernel
theorem d_Rn_store_37 : decode b_Rn_store 37 = .ok (.aload_n 0, 1) := by decide +kernel
theorem d_Rn_store_38 : decode b_Rn_store 38 = .ok (.bipush 6, 2) := by decide +kernel
theorem d_Rn_store_40 : decode b_Rn_store 40 = .ok (.lload_n 3, 1) := by decide +kernel
theorem d_Rn_store_41 : decode b_Rn_store 41 = .ok (.l2i, 1) := by decide +kernel
theorem d_Rn_store_42 : decode b_Rn_store 42 = .ok (.iadd, 1) := by decide +kernel
theorem d_Rn_store_43 : decode b_Rn_store 43 = .ok (.aload_n 0, 1) := by decide +kernel
theorem d_Rn_store_44 : decode b_Rn_store 44 = .ok (.getfield 20, 3) := by decide +kernel
theorem d_Rn_store_47 : decode b_Rn_store 47 = .ok (.iload_n 1, 1) := by decide +kernel
theorem d_Rn_store_48 : decode b_Rn_store 48 = .ok (.iaload, 1) := by decide +kernel
theorem d_Rn_store_49 : decode b_Rn_store 49 = .ok (.aload_n 0, 1) := by decide +kernel
theorem d_Rn_store_50 : decode b_Rn_store 50 = .ok (.getfield 24, 3) := by decide +kernel
theorem d_Rn_store_53 : decode b_Rn_store 53 = .ok (.iload_n 1, 1) := by decide +kernel
theorem d_Rn_store_54 : decode b_Rn_store 54 = .ok (.laload, 1) := by decide +kernel
theorem d_Rn_store_55 : decode b_Rn_store 55 = .ok (.invokevirtual 39, 3) := by decide +kernel
theorem d_Rn_store_58 : decode b_Rn_store 58 = .ok (.return_, 1) := by decide +kernel
theorem d_Rn_call_0 : decode b_Rn_call 0 = .ok (.iload_n 1, 1) := by decide +kernel
theorem d_Rn_call_1 : decode b_Rn_call 1 = .ok (.ifCond .ne 30, 3) := by decide +kernel
theorem d_Rn_call_4 : decode b_Rn_call 4 = .ok (.aload_n 0, 1) := by decide +kernel
theorem d_Rn_call_5 : decode b_Rn_call 5 = .ok (.iconst 0, 1) := by decide +kernel
theorem d_Rn_call_6 : decode b_Rn_call 6 = .ok (.iconst 1, 1) := by decide +kernel
theorem d_Rn_call_7 : decode b_Rn_call 7 = .ok (.aload_n 0, 1) := by decide +kernel
theorem d_Rn_call_8 : decode b_Rn_call 8 = .ok (.getfield 32, 3) := by decide +kernel
theorem d_Rn_call_11 : decode b_Rn_call 11 = .ok (.bipush 100, 2) := by decide +kernel
theorem d_Rn_call_13 : decode b_Rn_call 13 = .ok (.irem, 1) := by decide +kernel
theorem d_Rn_call_14 : decode b_Rn_call 14 = .ok (.i2l, 1) := by decide +kernel
theorem d_Rn_call_15 : decode b_Rn_call 15 = .ok (.invokevirtual 39, 3) := by decide +kernel
theorem d_Rn_call_18 : decode b_Rn_call 18 = .ok (.aload_n 0, 1) := by decide +kernel
theorem d_Rn_call_19 : decode b_Rn_call 19 = .ok (.dup, 1) := by decide +kernel
theorem d_Rn_call_20 : decode b_Rn_call 20 = .ok (.getfield 32, 3) := by decide +kernel
theorem d_Rn_call_23 : decode b_Rn_call 23 = .ok (.iconst 1, 1) := by decide +kernel
theorem d_Rn_call_24 : decode b_Rn_call 24 = .ok (.iadd, 1) := by decide +kernel
theorem d_Rn_call_25 : decode b_Rn_call 25 = .ok (.putfield 32, 3) := by decide +kernel
theorem d_Rn_call_28 : decode b_Rn_call 28 = .ok (.goto 42, 3) := by decide +kernel
theorem d_Rn_call_31 : decode b_Rn_call 31 = .ok (.iload_n 1, 1) := by decide +kernel
theorem d_Rn_call_32 : decode b_Rn_call 32 = .ok (.iconst 1, 1) := by decide +kernel
theorem d_Rn_call_33 : decode b_Rn_call 33 = .ok (.if_icmp .ne 16, 3) := by decide +kernel
theorem d_Rn_call_36 : decode b_Rn_call 36 = .ok (.aload_n 0, 1) := by decide +kernel
theorem d_Rn_call_37 : decode b_Rn_call 37 = .ok (.aload_n 0, 1) := by decide +kernel
theorem d_Rn_call_38 : decode b_Rn_call 38 = .ok (.getfield 24, 3) := by decide +kernel
theorem d_Rn_call_41 : decode b_Rn_call 41 = .ok (.iconst 1, 1) := by decide +kernel
theorem d_Rn_call_42 : decode b_Rn_call 42 = .ok (.laload, 1) := by decide +kernel
theorem d_Rn_call_43 : decode b_Rn_call 43 = .ok (.invokevirtual 104, 3) := by decide +kernel
theorem d_Rn_call_46 : decode b_Rn_call 46 = .ok (.goto 24, 3) := by decide +kernel
theorem d_Rn_call_49 : decode b_Rn_call 49 = .ok (.aload_n 0, 1) := by decide +kernel
theorem d_Rn_call_50 : decode b_Rn_call 50 = .ok (.iconst 0, 1) := by decide +kernel
theorem d_Rn_call_51 : decode b_Rn_call 51 = .ok (.iconst 1, 1) := by decide +kernel
theorem d_Rn_call_52 : decode b_Rn_call 52 = .ok (.aload_n 0, 1) := by decide +kernel
theorem d_Rn_call_53 : decode b_Rn_call 53 = .ok (.getfield 24, 3) := by decide +kernel
theorem d_Rn_call_56 : decode b_Rn_call 56 = .ok (.iconst 1, 1) := by decide +kernel
theorem d_Rn_call_57 : decode b_Rn_call 57 = .ok (.laload, 1) := by decide +kernel
theorem d_Rn_call_58 : decode b_Rn_call 58 = .ok (.aload_n 0, 1) := by decide +kernel
theorem d_Rn_call_59 : decode b_Rn_call 59 = .ok (.getfield 24, 3) := by decide +kernel
theorem d_Rn_call_62 : decode b_Rn_call 62 = .ok (.iconst 2, 1) := by decide +kernel
theorem d_Rn_call_63 : decode b_Rn_call 63 = .ok (.laload, 1) := by decide +kernel
theorem d_Rn_call_64 : decode b_Rn_call 64 = .ok (.invokestatic 108, 3) := by decide +kernel
theorem d_Rn_call_67 : decode b_Rn_call 67 = .ok (.invokevirtual 39, 3) := by decide +kernel
theorem d_Rn_call_70 : decode b_Rn_call 70 = .ok (.aload_n 0, 1) := by decide +kernel
theorem d_Rn_call_71 : decode b_Rn_call 71 = .ok (.iconst 1, 1) := by decide +kernel
theorem d_Rn_call_72 : decode b_Rn_call 72 = .ok (.iconst 0, 1) := by decide +kernel
theorem d_Rn_call_73 : decode b_Rn_call 73 = .ok (.lconst 0, 1) := by decide +kernel
theorem d_Rn_call_74 : decode b_Rn_call 74 = .ok (.invokevirtual 39, 3) := by decide +kernel
theorem d_Rn_call_77 : decode b_Rn_call 77 = .ok (.aload_n 0, 1) := by decide +kernel
theorem d_Rn_call_78 : decode b_Rn_call 78 = .ok (.iconst 2, 1) := by decide +kernel
theorem d_Rn_call_79 : decode b_Rn_call 79 = .ok (.iconst 0, 1) := by decide +kernel
theorem d_Rn_call_80 : decode b_Rn_call 80 = .ok (.lconst 0, 1) := by decide +kernel
theorem d_Rn_call_81 : decode b_Rn_call 81 = .ok (.invokevirtual 39, 3) := by decide +kernel
theorem d_Rn_call_84 : decode b_Rn_call 84 = .ok (.aload_n 0, 1) := by decide +kernel
theorem d_Rn_call_85 : decode b_Rn_call 85 = .ok (.iconst 3, 1) := by decide +kernel
theorem d_Rn_call_86 : decode b_Rn_call 86 = .ok (.iconst 0, 1) := by decide +kernel
theorem d_Rn_call_87 : decode b_Rn_call 87 = .ok (.lconst 0, 1) := by decide +kernel
theorem d_Rn_call_88 : decode b_Rn_call 88 = .ok (.invokevirtual 39, 3) := by decide +kernel
theorem d_Rn_call_91 : decode b_Rn_call 91 = .ok (.return_, 1) := by decide +kernel
theorem d_Rn_findRow_0 : decode b_Rn_findRow 0 = .ok (.lload_n 1, 1) := by decide +kernel
theorem d_Rn_findRow_1 : decode b_Rn_findRow 1 = .ok (.lconst 0, 1) := by decide +kernel
theorem d_Rn_findRow_2 : decode b_Rn_findRow 2 = .ok (.lcmp, 1) := by decide +kernel
theorem d_Rn_findRow_3 : decode b_Rn_findRow 3 = .ok (.ifCond .lt 24, 3) := by decide +kernel
theorem d_Rn_findRow_6 : decode b_Rn_findRow 6 = .ok (.lload_n 1, 1) := by decide +kernel
theorem d_Rn_findRow_7 : decode b_Rn_findRow 7 = .ok (.ldc2_w 99, 3) := by decide +kernel
theorem d_Rn_findRow_10 : decode b_Rn_findRow 10 = .ok (.lcmp, 1) := by decide +kernel
theorem d_Rn_findRow_11 : decode b_Rn_findRow 11 = .ok (.ifCond .ge 16, 3) := by decide +kernel
theorem d_Rn_findRow_14 : decode b_Rn_findRow 14 = .ok (.aload_n 0, 1) := by decide +kernel
theorem d_Rn_findRow_15 : decode b_Rn_findRow 15 = .ok (.iconst 0, 1) := by decide +kernel
theorem d_Rn_findRow_16 : decode b_Rn_findRow 16 = .ok (.iconst 3, 1) := by decide +kernel
theorem d_Rn_findRow_17 : decode b_Rn_findRow 17 = .ok (.lload_n 1, 1) := by decide +kernel
theorem d_Rn_findRow_18 : decode b_Rn_findRow 18 = .ok (.l2i, 1) := by decide +kernel
theorem d_Rn_findRow_19 : decode b_Rn_findRow 19 = .ok (.iadd, 1) := by decide +kernel
theorem d_Rn_findRow_20 : decode b_Rn_findRow 20 = .ok (.lconst 0, 1) := by decide +kernel
theorem d_Rn_findRow_21 : decode b_Rn_findRow 21 = .ok (.invokevirtual 39, 3) := by decide +kernel
theorem d_Rn_findRow_24 : decode b_Rn_findRow 24 = .ok (.goto 10, 3) := by decide +kernel
theorem d_Rn_findRow_27 : decode b_Rn_findRow 27 = .ok (.aload_n 0, 1) := by decide +kernel
theorem d_Rn_findRow_28 : decode b_Rn_findRow 28 = .ok (.iconst 0, 1) := by decide +kernel
theorem d_Rn_findRow_29 : decode b_Rn_findRow 29 = .ok (.iconst 1, 1) := by decide +kernel
theorem d_Rn_findRow_30 : decode b_Rn_findRow 30 = .ok (.lconst 0, 1) := by decide +kernel
theorem d_Rn_findRow_31 : decode b_Rn_findRow 31 = .ok (.invokevirtual 39, 3) := by decide +kernel
theorem d_Rn_findRow_34 : decode b_Rn_findRow 34 = .ok (.return_, 1) := by decide +kernel
