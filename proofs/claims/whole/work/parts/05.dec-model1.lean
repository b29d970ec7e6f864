theorem d_Md_init_0 : decode b_Md_init 0 = .ok (.aload_n 0, 1) := by decide +kernel
theorem d_Md_init_1 : decode b_Md_init 1 = .ok (.invokespecial 1, 3) := by decide +kernel
theorem d_Md_init_4 : decode b_Md_init 4 = .ok (.aload_n 0, 1) := by decide +kernel
theorem d_Md_init_5 : decode b_Md_init 5 = .ok (.bipush 24, 2) := by decide +kernel
theorem d_Md_init_7 : decode b_Md_init 7 = .ok (.newarray .int, 2) := by decide +kernel
theorem d_Md_init_9 : decode b_Md_init 9 = .ok (.putfield 7, 3) := by decide +kernel
theorem d_Md_init_12 : decode b_Md_init 12 = .ok (.aload_n 0, 1) := by decide +kernel
theorem d_Md_init_13 : decode b_Md_init 13 = .ok (.bipush 24, 2) := by decide +kernel
theorem d_Md_init_15 : decode b_Md_init 15 = .ok (.newarray .int, 2) := by decide +kernel
theorem d_Md_init_17 : decode b_Md_init 17 = .ok (.putfield 13, 3) := by decide +kernel
theorem d_Md_init_20 : decode b_Md_init 20 = .ok (.aload_n 0, 1) := by decide +kernel
theorem d_Md_init_21 : decode b_Md_init 21 = .ok (.bipush 24, 2) := by decide +kernel
theorem d_Md_init_23 : decode b_Md_init 23 = .ok (.newarray .int, 2) := by decide +kernel
theorem d_Md_init_25 : decode b_Md_init 25 = .ok (.putfield 16, 3) := by decide +kernel
theorem d_Md_init_28 : decode b_Md_init 28 = .ok (.aload_n 0, 1) := by decide +kernel
theorem d_Md_init_29 : decode b_Md_init 29 = .ok (.bipush 24, 2) := by decide +kernel
theorem d_Md_init_31 : decode b_Md_init 31 = .ok (.newarray .int, 2) := by decide +kernel
theorem d_Md_init_33 : decode b_Md_init 33 = .ok (.putfield 19, 3) := by decide +kernel
theorem d_Md_init_36 : decode b_Md_init 36 = .ok (.aload_n 0, 1) := by decide +kernel
theorem d_Md_init_37 : decode b_Md_init 37 = .ok (.bipush 24, 2) := by decide +kernel
theorem d_Md_init_39 : decode b_Md_init 39 = .ok (.newarray .int, 2) := by decide +kernel
theorem d_Md_init_41 : decode b_Md_init 41 = .ok (.putfield 22, 3) := by decide +kernel
theorem d_Md_init_44 : decode b_Md_init 44 = .ok (.aload_n 0, 1) := by decide +kernel
theorem d_Md_init_45 : decode b_Md_init 45 = .ok (.bipush 12, 2) := by decide +kernel
theorem d_Md_init_47 : decode b_Md_init 47 = .ok (.newarray .int, 2) := by decide +kernel
theorem d_Md_init_49 : decode b_Md_init 49 = .ok (.putfield 25, 3) := by decide +kernel
theorem d_Md_init_52 : decode b_Md_init 52 = .ok (.aload_n 0, 1) := by decide +kernel
theorem d_Md_init_53 : decode b_Md_init 53 = .ok (.bipush 12, 2) := by decide +kernel
theorem d_Md_init_55 : decode b_Md_init 55 = .ok (.newarray .long, 2) := by decide +kernel
theorem d_Md_init_57 : decode b_Md_init 57 = .ok (.putfield 28, 3) := by decide +kernel
theorem d_Md_init_60 : decode b_Md_init 60 = .ok (.aload_n 0, 1) := by decide +kernel
theorem d_Md_init_61 : decode b_Md_init 61 = .ok (.bipush 12, 2) := by decide +kernel
theorem d_Md_init_63 : decode b_Md_init 63 = .ok (.newarray .long, 2) := by decide +kernel
theorem d_Md_init_65 : decode b_Md_init 65 = .ok (.putfield 32, 3) := by decide +kernel
theorem d_Md_init_68 : decode b_Md_init 68 = .ok (.aload_n 0, 1) := by decide +kernel
theorem d_Md_init_69 : decode b_Md_init 69 = .ok (.sipush 360, 3) := by decide +kernel
theorem d_Md_init_72 : decode b_Md_init 72 = .ok (.newarray .int, 2) := by decide +kernel
theorem d_Md_init_74 : decode b_Md_init 74 = .ok (.putfield 35, 3) := by decide +kernel
theorem d_Md_init_77 : decode b_Md_init 77 = .ok (.aload_n 0, 1) := by decide +kernel
theorem d_Md_init_78 : decode b_Md_init 78 = .ok (.bipush 30, 2) := by decide +kernel
theorem d_Md_init_80 : decode b_Md_init 80 = .ok (.newarray .int, 2) := by decide +kernel
theorem d_Md_init_82 : decode b_Md_init 82 = .ok (.putfield 38, 3) := by decide +kernel
theorem d_Md_init_85 : decode b_Md_init 85 = .ok (.aload_n 0, 1) := by decide +kernel
theorem d_Md_init_86 : decode b_Md_init 86 = .ok (.sipush 360, 3) := by decide +kernel
theorem d_Md_init_89 : decode b_Md_init 89 = .ok (.newarray .long, 2) := by decide +kernel
theorem d_Md_init_91 : decode b_Md_init 91 = .ok (.putfield 41, 3) := by decide +kernel
theorem d_Md_init_94 : decode b_Md_init 94 = .ok (.aload_n 0, 1) := by decide +kernel
theorem d_Md_init_95 : decode b_Md_init 95 = .ok (.sipush 360, 3) := by decide +kernel
theorem d_Md_init_98 : decode b_Md_init 98 = .ok (.newarray .long, 2) := by decide +kernel
theorem d_Md_init_100 : decode b_Md_init 100 = .ok (.putfield 44, 3) := by decide +kernel
theorem d_Md_init_103 : decode b_Md_init 103 = .ok (.aload_n 0, 1) := by decide +kernel
theorem d_Md_init_104 : decode b_Md_init 104 = .ok (.bipush 12, 2) := by decide +kernel
theorem d_Md_init_106 : decode b_Md_init 106 = .ok (.newarray .long, 2) := by decide +kernel
theorem d_Md_init_108 : decode b_Md_init 108 = .ok (.putfield 47, 3) := by decide +kernel
theorem d_Md_init_111 : decode b_Md_init 111 = .ok (.return_, 1) := by decide +kernel
theorem d_Md_thrown_0 : decode b_Md_thrown 0 = .ok (.aload_n 0, 1) := by decide +kernel
theorem d_Md_thrown_1 : decode b_Md_thrown 1 = .ok (.getfield 50, 3) := by decide +kernel
theorem d_Md_thrown_4 : decode b_Md_thrown 4 = .ok (.ireturn, 1) := by decide +kernel
theorem d_Md_in_0 : decode b_Md_in 0 = .ok (.lload_n 0, 1) := by decide +kernel
theorem d_Md_in_1 : decode b_Md_in 1 = .ok (.lload_n 2, 1) := by decide +kernel
theorem d_Md_in_2 : decode b_Md_in 2 = .ok (.lcmp, 1) := by decide +kernel
theorem d_Md_in_3 : decode b_Md_in 3 = .ok (.ifCond .lt 14, 3) := by decide +kernel
theorem d_Md_in_6 : decode b_Md_in 6 = .ok (.lload_n 0, 1) := by decide +kernel
theorem d_Md_in_7 : decode b_Md_in 7 = .ok (.lload 4, 2) := by decide +kernel
theorem d_Md_in_9 : decode b_Md_in 9 = .ok (.lcmp, 1) := by decide +kernel
theorem d_Md_in_10 : decode b_Md_in 10 = .ok (.ifCond .gt 7, 3) := by decide +kernel
theorem d_Md_in_13 : decode b_Md_in 13 = .ok (.iconst 1, 1) := by decide +kernel
theorem d_Md_in_14 : decode b_Md_in 14 = .ok (.goto 4, 3) := by decide +kernel
theorem d_Md_in_17 : decode b_Md_in 17 = .ok (.iconst 0, 1) := by decide +kernel
theorem d_Md_in_18 : decode b_Md_in 18 = .ok (.ireturn, 1) := by decide +kernel
theorem d_Md_bad_0 : decode b_Md_bad 0 = .ok (.aload_n 0, 1) := by decide +kernel
theorem d_Md_bad_1 : decode b_Md_bad 1 = .ok (.iload_n 1, 1) := by decide +kernel
theorem d_Md_bad_2 : decode b_Md_bad 2 = .ok (.ifCond .eq 7, 3) := by decide +kernel
theorem d_Md_bad_5 : decode b_Md_bad 5 = .ok (.iconst 0, 1) := by decide +kernel
theorem d_Md_bad_6 : decode b_Md_bad 6 = .ok (.goto 4, 3) := by decide +kernel
theorem d_Md_bad_9 : decode b_Md_bad 9 = .ok (.iconst 1, 1) := by decide +kernel
theorem d_Md_bad_10 : decode b_Md_bad 10 = .ok (.putfield 50, 3) := by decide +kernel
theorem d_Md_bad_13 : decode b_Md_bad 13 = .ok (.iload_n 1, 1) := by decide +kernel
theorem d_Md_bad_14 : decode b_Md_bad 14 = .ok (.ifCond .ne 7, 3) := by decide +kernel
theorem d_Md_bad_17 : decode b_Md_bad 17 = .ok (.iconst 1, 1) := by decide +kernel
theorem d_Md_bad_18 : decode b_Md_bad 18 = .ok (.goto 4, 3) := by decide +kernel
theorem d_Md_bad_21 : decode b_Md_bad 21 = .ok (.iconst 0, 1) := by decide +kernel
theorem d_Md_bad_22 : decode b_Md_bad 22 = .ok (.ireturn, 1) := by decide +kernel
theorem d_Md_fits_0 : decode b_Md_fits 0 = .ok (.iload_n 1, 1) := by decide +kernel
theorem d_Md_fits_1 : decode b_Md_fits 1 = .ok (.i2l, 1) := by decide +kernel
theorem d_Md_fits_2 : decode b_Md_fits 2 = .ok (.lconst 0, 1) := by decide +kernel
theorem d_Md_fits_3 : decode b_Md_fits 3 = .ok (.ldc2_w 54, 3) := by decide +kernel
theorem d_Md_fits_6 : decode b_Md_fits 6 = .ok (.invokestatic 56, 3) := by decide +kernel
theorem d_Md_fits_9 : decode b_Md_fits 9 = .ok (.ifCond .eq 44, 3) := by decide +kernel
theorem d_Md_fits_12 : decode b_Md_fits 12 = .ok (.iload_n 2, 1) := by decide +kernel
theorem d_Md_fits_13 : decode b_Md_fits 13 = .ok (.i2l, 1) := by decide +kernel
theorem d_Md_fits_14 : decode b_Md_fits 14 = .ok (.lconst 0, 1) := by decide +kernel
theorem d_Md_fits_15 : decode b_Md_fits 15 = .ok (.ldc2_w 60, 3) := by decide +kernel
theorem d_Md_fits_18 : decode b_Md_fits 18 = .ok (.invokestatic 56, 3) := by decide +kernel
theorem d_Md_fits_21 : decode b_Md_fits 21 = .ok (.ifCond .eq 32, 3) := by decide +kernel
theorem d_Md_fits_24 : decode b_Md_fits 24 = .ok (.iload_n 3, 1) := by decide +kernel
theorem d_Md_fits_25 : decode b_Md_fits 25 = .ok (.i2l, 1) := by decide +kernel
theorem d_Md_fits_26 : decode b_Md_fits 26 = .ok (.lconst 0, 1) := by decide +kernel
theorem d_Md_fits_27 : decode b_Md_fits 27 = .ok (.ldc2_w 60, 3) := by decide +kernel
theorem d_Md_fits_30 : decode b_Md_fits 30 = .ok (.invokestatic 56, 3) := by decide +kernel
theorem d_Md_fits_33 : decode b_Md_fits 33 = .ok (.ifCond .eq 20, 3) := by decide +kernel
theorem d_Md_fits_36 : decode b_Md_fits 36 = .ok (.iload 4, 2) := by decide +kernel
theorem d_Md_fits_38 : decode b_Md_fits 38 = .ok (.i2l, 1) := by decide +kernel
theorem d_Md_fits_39 : decode b_Md_fits 39 = .ok (.lconst 0, 1) := by decide +kernel
theorem d_Md_fits_40 : decode b_Md_fits 40 = .ok (.ldc2_w 62, 3) := by decide +kernel
theorem d_Md_fits_43 : decode b_Md_fits 43 = .ok (.invokestatic 56, 3) := by decide +kernel
theorem d_Md_fits_46 : decode b_Md_fits 46 = .ok (.ifCond .eq 7, 3) := by decide +kernel
theorem d_Md_fits_49 : decode b_Md_fits 49 = .ok (.iconst 1, 1) := by decide +kernel
theorem d_Md_fits_50 : decode b_Md_fits 50 = .ok (.goto 4, 3) := by decide +kernel
theorem d_Md_fits_53 : decode b_Md_fits 53 = .ok (.iconst 0, 1) := by decide +kernel
theorem d_Md_fits_54 : decode b_Md_fits 54 = .ok (.ireturn, 1) := by decide +kernel
theorem d_Md_set_0 : decode b_Md_set 0 = .ok (.aload_n 0, 1) := by decide +kernel
theorem d_Md_set_1 : decode b_Md_set 1 = .ok (.getfield 7, 3) := by decide +kernel
theorem d_Md_set_4 : decode b_Md_set 4 = .ok (.iload_n 1, 1) := by decide +kernel
theorem d_Md_set_5 : decode b_Md_set 5 = .ok (.iload_n 2, 1) := by decide +kernel
theorem d_Md_set_6 : decode b_Md_set 6 = .ok (.iastore, 1) := by decide +kernel
theorem d_Md_set_7 : decode b_Md_set 7 = .ok (.aload_n 0, 1) := by decide +kernel
theorem d_Md_set_8 : decode b_Md_set 8 = .ok (.getfield 13, 3) := by decide +kernel
theorem d_Md_set_11 : decode b_Md_set 11 = .ok (.iload_n 1, 1) := by decide +kernel
theorem d_Md_set_12 : decode b_Md_set 12 = .ok (.iload_n 3, 1) := by decide +kernel
theorem d_Md_set_13 : decode b_Md_set 13 = .ok (.iastore, 1) := by decide +kernel
theorem d_Md_set_14 : decode b_Md_set 14 = .ok (.aload_n 0, 1) := by decide +kernel
theorem d_Md_set_15 : decode b_Md_set 15 = .ok (.getfield 16, 3) := by decide +kernel
theorem d_Md_set_18 : decode b_Md_set 18 = .ok (.iload_n 1, 1) := by decide +kernel
theorem d_Md_set_19 : decode b_Md_set 19 = .ok (.iload 4, 2) := by decide +kernel
theorem d_Md_set_21 : decode b_Md_set 21 = .ok (.iastore, 1) := by decide +kernel
theorem d_Md_set_22 : decode b_Md_set 22 = .ok (.aload_n 0, 1) := by decide +kernel
theorem d_Md_set_23 : decode b_Md_set 23 = .ok (.getfield 19, 3) := by decide +kernel
theorem d_Md_set_26 : decode b_Md_set 26 = .ok (.iload_n 1, 1) := by decide +kernel
theorem d_Md_set_27 : decode b_Md_set 27 = .ok (.iload 5, 2) := by decide +kernel
theorem d_Md_set_29 : decode b_Md_set 29 = .ok (.iastore, 1) := by decide +kernel
theorem d_Md_set_30 : decode b_Md_set 30 = .ok (.aload_n 0, 1) := by decide +kernel
theorem d_Md_set_31 : decode b_Md_set 31 = .ok (.getfield 22, 3) := by decide +kernel
theorem d_Md_set_34 : decode b_Md_set 34 = .ok (.iload_n 1, 1) := by decide +kernel
theorem d_Md_set_35 : decode b_Md_set 35 = .ok (.iload 6, 2) := by decide +kernel
theorem d_Md_set_37 : decode b_Md_set 37 = .ok (.iastore, 1) := by decide +kernel
theorem d_Md_set_38 : decode b_Md_set 38 = .ok (.aload_n 0, 1) := by decide +kernel
theorem d_Md_set_39 : decode b_Md_set 39 = .ok (.iconst 0, 1) := by decide +kernel
theorem d_Md_set_40 : decode b_Md_set 40 = .ok (.putfield 64, 3) := by decide +kernel
theorem d_Md_set_43 : decode b_Md_set 43 = .ok (.return_, 1) := by decide +kernel
theorem d_Md_add_0 : decode b_Md_add 0 = .ok (.aload_n 0, 1) := by decide +kernel
theorem d_Md_add_1 : decode b_Md_add 1 = .ok (.aload_n 0, 1) := by decide +kernel
theorem d_Md_add_2 : decode b_Md_add 2 = .ok (.iload_n 1, 1) := by decide +kernel
theorem d_Md_add_3 : decode b_Md_add 3 = .ok (.iload_n 2, 1) := by decide +kernel
theorem d_Md_add_4 : decode b_Md_add 4 = .ok (.iload_n 3, 1) := by decide +kernel
theorem d_Md_add_5 : decode b_Md_add 5 = .ok (.iload 5, 2) := by decide +kernel
theorem d_Md_add_7 : decode b_Md_add 7 = .ok (.invokevirtual 68, 3) := by decide +kernel
theorem d_Md_add_10 : decode b_Md_add 10 = .ok (.invokevirtual 72, 3) := by decide +kernel
theorem d_Md_add_13 : decode b_Md_add 13 = .ok (.ifCond .eq 5, 3) := by decide +kernel
theorem d_Md_add_16 : decode b_Md_add 16 = .ok (.iconst 0, 1) := by decide +kernel
theorem d_Md_add_17 : decode b_Md_add 17 = .ok (.ireturn, 1) := by decide +kernel
theorem d_Md_add_18 : decode b_Md_add 18 = .ok (.aload_n 0, 1) := by decide +kernel
theorem d_Md_add_19 : decode b_Md_add 19 = .ok (.getfield 76, 3) := by decide +kernel
theorem d_Md_add_22 : decode b_Md_add 22 = .ok (.bipush 24, 2) := by decide +kernel
theorem d_Md_add_24 : decode b_Md_add 24 = .ok (.if_icmp .ne 10, 3) := by decide +kernel
theorem d_Md_add_27 : decode b_Md_add 27 = .ok (.aload_n 0, 1) := by decide +kernel
theorem d_Md_add_28 : decode b_Md_add 28 = .ok (.iconst 2, 1) := by decide +kernel
theorem d_Md_add_29 : decode b_Md_add 29 = .ok (.putfield 50, 3) := by decide +kernel
theorem d_Md_add_32 : decode b_Md_add 32 = .ok (.iconst 0, 1) := by decide +kernel
theorem d_Md_add_33 : decode b_Md_add 33 = .ok (.ireturn, 1) := by decide +kernel
theorem d_Md_add_34 : decode b_Md_add 34 = .ok (.aload_n 0, 1) := by decide +kernel
theorem d_Md_add_35 : decode b_Md_add 35 = .ok (.aload_n 0, 1) := by decide +kernel
theorem d_Md_add_36 : decode b_Md_add 36 = .ok (.getfield 76, 3) := by decide +kernel
theorem d_Md_add_39 : decode b_Md_add 39 = .ok (.iload_n 1, 1) := by decide +kernel
theorem d_Md_add_40 : decode b_Md_add 40 = .ok (.iload_n 2, 1) := by decide +kernel
theorem d_Md_add_41 : decode b_Md_add 41 = .ok (.iload_n 3, 1) := by decide +kernel
theorem d_Md_add_42 : decode b_Md_add 42 = .ok (.iload 4, 2) := by decide +kernel
theorem d_Md_add_44 : decode b_Md_add 44 = .ok (.iload 5, 2) := by decide +kernel
theorem d_Md_add_46 : decode b_Md_add 46 = .ok (.invokevirtual 79, 3) := by decide +kernel
theorem d_Md_add_49 : decode b_Md_add 49 = .ok (.aload_n 0, 1) := by decide +kernel
theorem d_Md_add_50 : decode b_Md_add 50 = .ok (.dup, 1) := by decide +kernel
theorem d_Md_add_51 : decode b_Md_add 51 = .ok (.getfield 76, 3) := by decide +kernel
theorem d_Md_add_54 : decode b_Md_add 54 = .ok (.iconst 1, 1) := by decide +kernel
theorem d_Md_add_55 : decode b_Md_add 55 = .ok (.iadd, 1) := by decide +kernel
theorem d_Md_add_56 : decode b_Md_add 56 = .ok (.putfield 76, 3) := by decide +kernel
theorem d_Md_add_59 : decode b_Md_add 59 = .ok (.aload_n 0, 1) := by decide +kernel
theorem d_Md_add_60 : decode b_Md_add 60 = .ok (.getfield 76, 3) := by decide +kernel
theorem d_Md_add_63 : decode b_Md_add 63 = .ok (.iconst 1, 1) := by decide +kernel
theorem d_Md_add_64 : decode b_Md_add 64 = .ok (.isub, 1) := by decide +kernel
theorem d_Md_add_65 : decode b_Md_add 65 = .ok (.ireturn, 1) := by decide +kernel
theorem d_Md_put_0 : decode b_Md_put 0 = .ok (.aload_n 0, 1) := by decide +kernel
theorem d_Md_put_1 : decode b_Md_put 1 = .ok (.aload_n 0, 1) := by decide +kernel
theorem d_Md_put_2 : decode b_Md_put 2 = .ok (.iload_n 2, 1) := by decide +kernel
theorem d_Md_put_3 : decode b_Md_put 3 = .ok (.iload_n 3, 1) := by decide +kernel
theorem d_Md_put_4 : decode b_Md_put 4 = .ok (.iload 4, 2) := by decide +kernel
theorem d_Md_put_6 : decode b_Md_put 6 = .ok (.iload 6, 2) := by decide +kernel
theorem d_Md_put_8 : decode b_Md_put 8 = .ok (.invokevirtual 68, 3) := by decide +kernel
theorem d_Md_put_11 : decode b_Md_put 11 = .ok (.invokevirtual 72, 3) := by decide +kernel
theorem d_Md_put_14 : decode b_Md_put 14 = .ok (.ifCond .eq 4, 3) := by decide +kernel
theorem d_Md_put_17 : decode b_Md_put 17 = .ok (.return_, 1) := by decide +kernel
theorem d_Md_put_18 : decode b_Md_put 18 = .ok (.iload_n 1, 1) := by decide +kernel
theorem d_Md_put_19 : decode b_Md_put 19 = .ok (.i2l, 1) := by decide +kernel
theorem d_Md_put_20 : decode b_Md_put 20 = .ok (.lconst 0, 1) := by decide +kernel
theorem d_Md_put_21 : decode b_Md_put 21 = .ok (.aload_n 0, 1) := by decide +kernel
theorem d_Md_put_22 : decode b_Md_put 22 = .ok (.getfield 76, 3) := by decide +kernel
theorem d_Md_put_25 : decode b_Md_put 25 = .ok (.iconst 1, 1) := by decide +kernel
theorem d_Md_put_26 : decode b_Md_put 26 = .ok (.isub, 1) := by decide +kernel
theorem d_Md_put_27 : decode b_Md_put 27 = .ok (.i2l, 1) := by decide +kernel
theorem d_Md_put_28 : decode b_Md_put 28 = .ok (.invokestatic 56, 3) := by decide +kernel
theorem d_Md_put_31 : decode b_Md_put 31 = .ok (.ifCond .ne 11, 3) := by decide +kernel
theorem d_Md_put_34 : decode b_Md_put 34 = .ok (.aload_n 0, 1) := by decide +kernel
theorem d_Md_put_35 : decode b_Md_put 35 = .ok (.iconst 2, 1) := by decide +kernel
theorem d_Md_put_36 : decode b_Md_put 36 = .ok (.putfield 50, 3) := by decide +kernel
theorem d_Md_put_39 : decode b_Md_put 39 = .ok (.goto 16, 3) := by decide +kernel
theorem d_Md_put_42 : decode b_Md_put 42 = .ok (.aload_n 0, 1) := by decide +kernel
theorem d_Md_put_43 : decode b_Md_put 43 = .ok (.iload_n 1, 1) := by decide +kernel
theorem d_Md_put_44 : decode b_Md_put 44 = .ok (.iload_n 2, 1) := by decide +kernel
theorem d_Md_put_45 : decode b_Md_put 45 = .ok (.iload_n 3, 1) := by decide +kernel
theorem d_Md_put_46 : decode b_Md_put 46 = .ok (.iload 4, 2) := by decide +kernel
theorem d_Md_put_48 : decode b_Md_put 48 = .ok (.iload 5, 2) := by decide +kernel
theorem d_Md_put_50 : decode b_Md_put 50 = .ok (.iload 6, 2) := by decide +kernel
theorem d_Md_put_52 : decode b_Md_put 52 = .ok (.invokevirtual 79, 3) := by decide +kernel
theorem d_Md_put_55 : decode b_Md_put 55 = .ok (.return_, 1) := by decide +kernel
theorem d_Md_cut_0 : decode b_Md_cut 0 = .ok (.aload_n 0, 1) := by decide +kernel
theorem d_Md_cut_1 : decode b_Md_cut 1 = .ok (.iload_n 1, 1) := by decide +kernel
theorem d_Md_cut_2 : decode b_Md_cut 2 = .ok (.i2l, 1) := by decide +kernel
theorem d_Md_cut_3 : decode b_Md_cut 3 = .ok (.lconst 0, 1) := by decide +kernel
theorem d_Md_cut_4 : decode b_Md_cut 4 = .ok (.aload_n 0, 1) := by decide +kernel
theorem d_Md_cut_5 : decode b_Md_cut 5 = .ok (.getfield 76, 3) := by decide +kernel
theorem d_Md_cut_8 : decode b_Md_cut 8 = .ok (.i2l, 1) := by decide +kernel
theorem d_Md_cut_9 : decode b_Md_cut 9 = .ok (.invokestatic 56, 3) := by decide +kernel
theorem d_Md_cut_12 : decode b_Md_cut 12 = .ok (.invokevirtual 72, 3) := by decide +kernel
theorem d_Md_cut_15 : decode b_Md_cut 15 = .ok (.ifCond .eq 4, 3) := by decide +kernel
theorem d_Md_cut_18 : decode b_Md_cut 18 = .ok (.return_, 1) := by decide +kernel
theorem d_Md_cut_19 : decode b_Md_cut 19 = .ok (.aload_n 0, 1) := by decide +kernel
theorem d_Md_cut_20 : decode b_Md_cut 20 = .ok (.iload_n 1, 1) := by decide +kernel
theorem d_Md_cut_21 : decode b_Md_cut 21 = .ok (.putfield 76, 3) := by decide +kernel
theorem d_Md_cut_24 : decode b_Md_cut 24 = .ok (.aload_n 0, 1) := by decide +kernel
theorem d_Md_cut_25 : decode b_Md_cut 25 = .ok (.iconst 0, 1) := by decide +kernel
theorem d_Md_cut_26 : decode b_Md_cut 26 = .ok (.putfield 64, 3) := by decide +kernel
theorem d_Md_cut_29 : decode b_Md_cut 29 = .ok (.return_, 1) := by decide +kernel
theorem d_Md_know_0 : decode b_Md_know 0 = .ok (.aload_n 0, 1) := by decide +kernel
theorem d_Md_know_1 : decode b_Md_know 1 = .ok (.getfield 25, 3) := by decide +kernel
theorem d_Md_know_4 : decode b_Md_know 4 = .ok (.iload_n 1, 1) := by decide +kernel
theorem d_Md_know_5 : decode b_Md_know 5 = .ok (.iload_n 2, 1) := by decide +kernel
theorem d_Md_know_6 : decode b_Md_know 6 = .ok (.iastore, 1) := by decide +kernel
theorem d_Md_know_7 : decode b_Md_know 7 = .ok (.aload_n 0, 1) := by decide +kernel
theorem d_Md_know_8 : decode b_Md_know 8 = .ok (.getfield 28, 3) := by decide +kernel
theorem d_Md_know_11 : decode b_Md_know 11 = .ok (.iload_n 1, 1) := by decide +kernel
theorem d_Md_know_12 : decode b_Md_know 12 = .ok (.lload_n 3, 1) := by decide +kernel
theorem d_Md_know_13 : decode b_Md_know 13 = .ok (.lastore, 1) := by decide +kernel
theorem d_Md_know_14 : decode b_Md_know 14 = .ok (.aload_n 0, 1) := by decide +kernel
theorem d_Md_know_15 : decode b_Md_know 15 = .ok (.getfield 32, 3) := by decide +kernel
theorem d_Md_know_18 : decode b_Md_know 18 = .ok (.iload_n 1, 1) := by decide +kernel
theorem d_Md_know_19 : decode b_Md_know 19 = .ok (.lload 5, 2) := by decide +kernel
theorem d_Md_know_21 : decode b_Md_know 21 = .ok (.lastore, 1) := by decide +kernel
theorem d_Md_know_22 : decode b_Md_know 22 = .ok (.return_, 1) := by decide +kernel
theorem d_Md_copy_0 : decode b_Md_copy 0 = .ok (.aload_n 0, 1) := by decide +kernel
theorem d_Md_copy_1 : decode b_Md_copy 1 = .ok (.iload_n 2, 1) := by decide +kernel
theorem d_Md_copy_2 : decode b_Md_copy 2 = .ok (.aload_n 0, 1) := by decide +kernel
theorem d_Md_copy_3 : decode b_Md_copy 3 = .ok (.getfield 25, 3) := by decide +kernel
theorem d_Md_copy_6 : decode b_Md_copy 6 = .ok (.iload_n 1, 1) := by decide +kernel
theorem d_Md_copy_7 : decode b_Md_copy 7 = .ok (.iaload, 1) := by decide +kernel
theorem d_Md_copy_8 : decode b_Md_copy 8 = .ok (.aload_n 0, 1) := by decide +kernel
theorem d_Md_copy_9 : decode b_Md_copy 9 = .ok (.getfield 28, 3) := by decide +kernel
theorem d_Md_copy_12 : decode b_Md_copy 12 = .ok (.iload_n 1, 1) := by decide +kernel
theorem d_Md_copy_13 : decode b_Md_copy 13 = .ok (.laload, 1) := by decide +kernel
theorem d_Md_copy_14 : decode b_Md_copy 14 = .ok (.aload_n 0, 1) := by decide +kernel
theorem d_Md_copy_15 : decode b_Md_copy 15 = .ok (.getfield 32, 3) := by decide +kernel
theorem d_Md_copy_18 : decode b_Md_copy 18 = .ok (.iload_n 1, 1) := by decide +kernel
theorem d_Md_copy_19 : decode b_Md_copy 19 = .ok (.laload, 1) := by decide +kernel
theorem d_Md_copy_20 : decode b_Md_copy 20 = .ok (.invokevirtual 83, 3) := by decide +kernel
theorem d_Md_copy_23 : decode b_Md_copy 23 = .ok (.return_, 1) := by decide +kernel
theorem d_Md_anything_0 : decode b_Md_anything 0 = .ok (.aload_n 0, 1) := by decide +kernel
theorem d_Md_anything_1 : decode b_Md_anything 1 = .ok (.iload_n 1, 1) := by decide +kernel
theorem d_Md_anything_2 : decode b_Md_anything 2 = .ok (.iconst 1, 1) := by decide +kernel
theorem d_Md_anything_3 : decode b_Md_anything 3 = .ok (.ldc2_w 87, 3) := by decide +kernel
theorem d_Md_anything_6 : decode b_Md_anything 6 = .ok (.ldc2_w 89, 3) := by decide +kernel
theorem d_Md_anything_9 : decode b_Md_anything 9 = .ok (.invokevirtual 83, 3) := by decide +kernel
theorem d_Md_anything_12 : decode b_Md_anything 12 = .ok (.return_, 1) := by decide +kernel
theorem d_Md_overflows_0 : decode b_Md_overflows 0 = .ok (.lload_n 0, 1) := by decide +kernel
theorem d_Md_overflows_1 : decode b_Md_overflows 1 = .ok (.lload_n 2, 1) := by decide +kernel
theorem d_Md_overflows_2 : decode b_Md_overflows 2 = .ok (.ladd, 1) := by decide +kernel
theorem d_Md_overflows_3 : decode b_Md_overflows 3 = .ok (.lstore 4, 2) := by decide +kernel
theorem d_Md_overflows_5 : decode b_Md_overflows 5 = .ok (.lload_n 0, 1) := by decide +kernel
theorem d_Md_overflows_6 : decode b_Md_overflows 6 = .ok (.lload 4, 2) := by decide +kernel
theorem d_Md_overflows_8 : decode b_Md_overflows 8 = .ok (.lxor, 1) := by decide +kernel
theorem d_Md_overflows_9 : decode b_Md_overflows 9 = .ok (.lload_n 2, 1) := by decide +kernel
theorem d_Md_overflows_10 : decode b_Md_overflows 10 = .ok (.lload 4, 2) := by decide +kernel
theorem d_Md_overflows_12 : decode b_Md_overflows 12 = .ok (.lxor, 1) := by decide +kernel
theorem d_Md_overflows_13 : decode b_Md_overflows 13 = .ok (.land, 1) := by decide +kernel
theorem d_Md_overflows_14 : decode b_Md_overflows 14 = .ok (.lconst 0, 1) := by decide +kernel
theorem d_Md_overflows_15 : decode b_Md_overflows 15 = .ok (.lcmp, 1) := by decide +kernel
theorem d_Md_overflows_16 : decode b_Md_overflows 16 = .ok (.ifCond .ge 7, 3) := by decide +kernel
theorem d_Md_overflows_19 : decode b_Md_overflows 19 = .ok (.iconst 1, 1) := by decide +kernel
theorem d_Md_overflows_20 : decode b_Md_overflows 20 = .ok (.goto 4, 3) := by decide +kernel
theorem d_Md_overflows_23 : decode b_Md_overflows 23 = .ok (.iconst 0, 1) := by decide +kernel
theorem d_Md_overflows_24 : decode b_Md_overflows 24 = .ok (.ireturn, 1) := by decide +kernel
theorem d_Md_usesD_0 : decode b_Md_usesD 0 = .ok (.iload_n 1, 1) := by decide +kernel
theorem d_Md_usesD_1 : decode b_Md_usesD 1 = .ok (.iconst 1, 1) := by decide +kernel
theorem d_Md_usesD_2 : decode b_Md_usesD 2 = .ok (.if_icmp .le 9, 3) := by decide +kernel
theorem d_Md_usesD_5 : decode b_Md_usesD 5 = .ok (.iload_n 1, 1) := by decide +kernel
theorem d_Md_usesD_6 : decode b_Md_usesD 6 = .ok (.bipush 13, 2) := by decide +kernel
theorem d_Md_usesD_8 : decode b_Md_usesD 8 = .ok (.if_icmp .lt 9, 3) := by decide +kernel
theorem d_Md_usesD_11 : decode b_Md_usesD 11 = .ok (.iload_n 1, 1) := by decide +kernel
theorem d_Md_usesD_12 : decode b_Md_usesD 12 = .ok (.bipush 15, 2) := by decide +kernel
theorem d_Md_usesD_14 : decode b_Md_usesD 14 = .ok (.if_icmp .ne 7, 3) := by decide +kernel
theorem d_Md_usesD_17 : decode b_Md_usesD 17 = .ok (.iconst 1, 1) := by decide +kernel
theorem d_Md_usesD_18 : decode b_Md_usesD 18 = .ok (.goto 4, 3) := by decide +kernel
theorem d_Md_usesD_21 : decode b_Md_usesD 21 = .ok (.iconst 0, 1) := by decide +kernel
theorem d_Md_usesD_22 : decode b_Md_usesD 22 = .ok (.ireturn, 1) := by decide +kernel
theorem d_Md_usesS_0 : decode b_Md_usesS 0 = .ok (.iload_n 1, 1) := by decide +kernel
theorem d_Md_usesS_1 : decode b_Md_usesS 1 = .ok (.iconst 1, 1) := by decide +kernel
theorem d_Md_usesS_2 : decode b_Md_usesS 2 = .ok (.if_icmp .eq 31, 3) := by decide +kernel
theorem d_Md_usesS_5 : decode b_Md_usesS 5 = .ok (.iload_n 1, 1) := by decide +kernel
theorem d_Md_usesS_6 : decode b_Md_usesS 6 = .ok (.iconst 3, 1) := by decide +kernel
theorem d_Md_usesS_7 : decode b_Md_usesS 7 = .ok (.if_icmp .eq 26, 3) := by decide +kernel
theorem d_Md_usesS_10 : decode b_Md_usesS 10 = .ok (.iload_n 1, 1) := by decide +kernel
theorem d_Md_usesS_11 : decode b_Md_usesS 11 = .ok (.iconst 4, 1) := by decide +kernel
theorem d_Md_usesS_12 : decode b_Md_usesS 12 = .ok (.if_icmp .eq 21, 3) := by decide +kernel
theorem d_Md_usesS_15 : decode b_Md_usesS 15 = .ok (.iload_n 1, 1) := by decide +kernel
theorem d_Md_usesS_16 : decode b_Md_usesS 16 = .ok (.bipush 12, 2) := by decide +kernel
theorem d_Md_usesS_18 : decode b_Md_usesS 18 = .ok (.if_icmp .eq 15, 3) := by decide +kernel
theorem d_Md_usesS_21 : decode b_Md_usesS 21 = .ok (.iload_n 1, 1) := by decide +kernel
theorem d_Md_usesS_22 : decode b_Md_usesS 22 = .ok (.bipush 14, 2) := by decide +kernel
theorem d_Md_usesS_24 : decode b_Md_usesS 24 = .ok (.if_icmp .eq 9, 3) := by decide +kernel
theorem d_Md_usesS_27 : decode b_Md_usesS 27 = .ok (.iload_n 1, 1) := by decide +kernel
theorem d_Md_usesS_28 : decode b_Md_usesS 28 = .ok (.bipush 15, 2) := by decide +kernel
theorem d_Md_usesS_30 : decode b_Md_usesS 30 = .ok (.if_icmp .ne 7, 3) := by decide +kernel
theorem d_Md_usesS_33 : decode b_Md_usesS 33 = .ok (.iconst 1, 1) := by decide +kernel
theorem d_Md_usesS_34 : decode b_Md_usesS 34 = .ok (.goto 4, 3) := by decide +kernel
theorem d_Md_usesS_37 : decode b_Md_usesS 37 = .ok (.iconst 0, 1) := by decide +kernel
theorem d_Md_usesS_38 : decode b_Md_usesS 38 = .ok (.ireturn, 1) := by decide +kernel
theorem d_Md_place_0 : decode b_Md_place 0 = .ok (.aload_n 0, 1) := by decide +kernel
theorem d_Md_place_1 : decode b_Md_place 1 = .ok (.getfield 25, 3) := by decide +kernel
theorem d_Md_place_4 : decode b_Md_place 4 = .ok (.iload_n 1, 1) := by decide +kernel
theorem d_Md_place_5 : decode b_Md_place 5 = .ok (.iaload, 1) := by decide +kernel
theorem d_Md_place_6 : decode b_Md_place 6 = .ok (.iconst 2, 1) := by decide +kernel
theorem d_Md_place_7 : decode b_Md_place 7 = .ok (.if_icmp .eq 13, 3) := by decide +kernel
theorem d_Md_place_10 : decode b_Md_place 10 = .ok (.aload_n 0, 1) := by decide +kernel
theorem d_Md_place_11 : decode b_Md_place 11 = .ok (.getfield 25, 3) := by decide +kernel
theorem d_Md_place_14 : decode b_Md_place 14 = .ok (.iload_n 1, 1) := by decide +kernel
theorem d_Md_place_15 : decode b_Md_place 15 = .ok (.iaload, 1) := by decide +kernel
theorem d_Md_place_16 : decode b_Md_place 16 = .ok (.iconst 3, 1) := by decide +kernel
theorem d_Md_place_17 : decode b_Md_place 17 = .ok (.if_icmp .ne 7, 3) := by decide +kernel
theorem d_Md_place_20 : decode b_Md_place 20 = .ok (.iconst 1, 1) := by decide +kernel
theorem d_Md_place_21 : decode b_Md_place 21 = .ok (.goto 4, 3) := by decide +kernel
theorem d_Md_place_24 : decode b_Md_place 24 = .ok (.iconst 0, 1) := by decide +kernel
theorem d_Md_place_25 : decode b_Md_place 25 = .ok (.ireturn, 1) := by decide +kernel
theorem d_Md_empties_0 : decode b_Md_empties 0 = .ok (.aload_n 0, 1) := by decide +kernel
theorem d_Md_empties_1 : decode b_Md_empties 1 = .ok (.getfield 7, 3) := by decide +kernel
theorem d_Md_empties_4 : decode b_Md_empties 4 = .ok (.iload_n 1, 1) := by decide +kernel
theorem d_Md_empties_5 : decode b_Md_empties 5 = .ok (.iaload, 1) := by decide +kernel
theorem d_Md_empties_6 : decode b_Md_empties 6 = .ok (.istore_n 2, 1) := by decide +kernel
theorem d_Md_empties_7 : decode b_Md_empties 7 = .ok (.iload_n 2, 1) := by decide +kernel
theorem d_Md_empties_8 : decode b_Md_empties 8 = .ok (.bipush 16, 2) := by decide +kernel
theorem d_Md_empties_10 : decode b_Md_empties 10 = .ok (.if_icmp .ge 53, 3) := by decide +kernel
theorem d_Md_empties_13 : decode b_Md_empties 13 = .ok (.aload_n 0, 1) := by decide +kernel
theorem d_Md_empties_14 : decode b_Md_empties 14 = .ok (.iload_n 2, 1) := by decide +kernel
theorem d_Md_empties_15 : decode b_Md_empties 15 = .ok (.invokevirtual 91, 3) := by decide +kernel
theorem d_Md_empties_18 : decode b_Md_empties 18 = .ok (.ifCond .eq 17, 3) := by decide +kernel
theorem d_Md_empties_21 : decode b_Md_empties 21 = .ok (.aload_n 0, 1) := by decide +kernel
theorem d_Md_empties_22 : decode b_Md_empties 22 = .ok (.getfield 25, 3) := by decide +kernel
theorem d_Md_empties_25 : decode b_Md_empties 25 = .ok (.aload_n 0, 1) := by decide +kernel
theorem d_Md_empties_26 : decode b_Md_empties 26 = .ok (.getfield 13, 3) := by decide +kernel
theorem d_Md_empties_29 : decode b_Md_empties 29 = .ok (.iload_n 1, 1) := by decide +kernel
theorem d_Md_empties_30 : decode b_Md_empties 30 = .ok (.iaload, 1) := by decide +kernel
theorem d_Md_empties_31 : decode b_Md_empties 31 = .ok (.iaload, 1) := by decide +kernel
theorem d_Md_empties_32 : decode b_Md_empties 32 = .ok (.ifCond .eq 25, 3) := by decide +kernel
theorem d_Md_empties_35 : decode b_Md_empties 35 = .ok (.aload_n 0, 1) := by decide +kernel
theorem d_Md_empties_36 : decode b_Md_empties 36 = .ok (.iload_n 2, 1) := by decide +kernel
theorem d_Md_empties_37 : decode b_Md_empties 37 = .ok (.invokevirtual 95, 3) := by decide +kernel
theorem d_Md_empties_40 : decode b_Md_empties 40 = .ok (.ifCond .eq 21, 3) := by decide +kernel
theorem d_Md_empties_43 : decode b_Md_empties 43 = .ok (.aload_n 0, 1) := by decide +kernel
theorem d_Md_empties_44 : decode b_Md_empties 44 = .ok (.getfield 25, 3) := by decide +kernel
theorem d_Md_empties_47 : decode b_Md_empties 47 = .ok (.aload_n 0, 1) := by decide +kernel
theorem d_Md_empties_48 : decode b_Md_empties 48 = .ok (.getfield 16, 3) := by decide +kernel
theorem d_Md_empties_51 : decode b_Md_empties 51 = .ok (.iload_n 1, 1) := by decide +kernel
theorem d_Md_empties_52 : decode b_Md_empties 52 = .ok (.iaload, 1) := by decide +kernel
theorem d_Md_empties_53 : decode b_Md_empties 53 = .ok (.iaload, 1) := by decide +kernel
theorem d_Md_empties_54 : decode b_Md_empties 54 = .ok (.ifCond .ne 7, 3) := by decide +kernel
theorem d_Md_empties_57 : decode b_Md_empties 57 = .ok (.iconst 1, 1) := by decide +kernel
theorem d_Md_empties_58 : decode b_Md_empties 58 = .ok (.goto 4, 3) := by decide +kernel
theorem d_Md_empties_61 : decode b_Md_empties 61 = .ok (.iconst 0, 1) := by decide +kernel
theorem d_Md_empties_62 : decode b_Md_empties 62 = .ok (.ireturn, 1) := by decide +kernel
theorem d_Md_empties_63 : decode b_Md_empties 63 = .ok (.iload_n 2, 1) := by decide +kernel
theorem d_Md_empties_64 : decode b_Md_empties 64 = .ok (.bipush 17, 2) := by decide +kernel
theorem d_Md_empties_66 : decode b_Md_empties 66 = .ok (.if_icmp .ne 18, 3) := by decide +kernel
theorem d_Md_empties_69 : decode b_Md_empties 69 = .ok (.aload_n 0, 1) := by decide +kernel
theorem d_Md_empties_70 : decode b_Md_empties 70 = .ok (.getfield 25, 3) := by decide +kernel
theorem d_Md_empties_73 : decode b_Md_empties 73 = .ok (.iconst 0, 1) := by decide +kernel
theorem d_Md_empties_74 : decode b_Md_empties 74 = .ok (.iaload, 1) := by decide +kernel
theorem d_Md_empties_75 : decode b_Md_empties 75 = .ok (.ifCond .ne 7, 3) := by decide +kernel
theorem d_Md_empties_78 : decode b_Md_empties 78 = .ok (.iconst 1, 1) := by decide +kernel
theorem d_Md_empties_79 : decode b_Md_empties 79 = .ok (.goto 4, 3) := by decide +kernel
theorem d_Md_empties_82 : decode b_Md_empties 82 = .ok (.iconst 0, 1) := by decide +kernel
theorem d_Md_empties_83 : decode b_Md_empties 83 = .ok (.ireturn, 1) := by decide +kernel
theorem d_Md_empties_84 : decode b_Md_empties 84 = .ok (.aload_n 0, 1) := by decide +kernel
theorem d_Md_empties_85 : decode b_Md_empties 85 = .ok (.getfield 19, 3) := by decide +kernel
theorem d_Md_empties_88 : decode b_Md_empties 88 = .ok (.iload_n 1, 1) := by decide +kernel
theorem d_Md_empties_89 : decode b_Md_empties 89 = .ok (.iaload, 1) := by decide +kernel
theorem d_Md_empties_90 : decode b_Md_empties 90 = .ok (.iconst 1, 1) := by decide +kernel
theorem d_Md_empties_91 : decode b_Md_empties 91 = .ok (.if_icmp .eq 13, 3) := by decide +kernel
theorem d_Md_empties_94 : decode b_Md_empties 94 = .ok (.aload_n 0, 1) := by decide +kernel
theorem d_Md_empties_95 : decode b_Md_empties 95 = .ok (.getfield 19, 3) := by decide +kernel
theorem d_Md_empties_98 : decode b_Md_empties 98 = .ok (.iload_n 1, 1) := by decide +kernel
theorem d_Md_empties_99 : decode b_Md_empties 99 = .ok (.iaload, 1) := by decide +kernel
theorem d_Md_empties_100 : decode b_Md_empties 100 = .ok (.iconst 2, 1) := by decide +kernel
theorem d_Md_empties_101 : decode b_Md_empties 101 = .ok (.if_icmp .ne 12, 3) := by decide +kernel
theorem d_Md_empties_104 : decode b_Md_empties 104 = .ok (.aload_n 0, 1) := by decide +kernel
theorem d_Md_empties_105 : decode b_Md_empties 105 = .ok (.getfield 25, 3) := by decide +kernel
theorem d_Md_empties_108 : decode b_Md_empties 108 = .ok (.iconst 1, 1) := by decide +kernel
theorem d_Md_empties_109 : decode b_Md_empties 109 = .ok (.iaload, 1) := by decide +kernel
theorem d_Md_empties_110 : decode b_Md_empties 110 = .ok (.ifCond .eq 22, 3) := by decide +kernel
theorem d_Md_empties_113 : decode b_Md_empties 113 = .ok (.aload_n 0, 1) := by decide +kernel
theorem d_Md_empties_114 : decode b_Md_empties 114 = .ok (.getfield 19, 3) := by decide +kernel
theorem d_Md_empties_117 : decode b_Md_empties 117 = .ok (.iload_n 1, 1) := by decide +kernel
theorem d_Md_empties_118 : decode b_Md_empties 118 = .ok (.iaload, 1) := by decide +kernel
theorem d_Md_empties_119 : decode b_Md_empties 119 = .ok (.iconst 2, 1) := by decide +kernel
theorem d_Md_empties_120 : decode b_Md_empties 120 = .ok (.if_icmp .ne 16, 3) := by decide +kernel
theorem d_Md_empties_123 : decode b_Md_empties 123 = .ok (.aload_n 0, 1) := by decide +kernel
theorem d_Md_empties_124 : decode b_Md_empties 124 = .ok (.getfield 25, 3) := by decide +kernel
theorem d_Md_empties_127 : decode b_Md_empties 127 = .ok (.iconst 2, 1) := by decide +kernel
theorem d_Md_empties_128 : decode b_Md_empties 128 = .ok (.iaload, 1) := by decide +kernel
theorem d_Md_empties_129 : decode b_Md_empties 129 = .ok (.ifCond .ne 7, 3) := by decide +kernel
theorem d_Md_empties_132 : decode b_Md_empties 132 = .ok (.iconst 1, 1) := by decide +kernel
theorem d_Md_empties_133 : decode b_Md_empties 133 = .ok (.goto 4, 3) := by decide +kernel
theorem d_Md_empties_136 : decode b_Md_empties 136 = .ok (.iconst 0, 1) := by decide +kernel
theorem d_Md_empties_137 : decode b_Md_empties 137 = .ok (.ireturn, 1) := by decide +kernel
theorem d_Md_wrongNumber_0 : decode b_Md_wrongNumber 0 = .ok (.aload_n 0, 1) := by decide +kernel
theorem d_Md_wrongNumber_1 : decode b_Md_wrongNumber 1 = .ok (.getfield 7, 3) := by decide +kernel
theorem d_Md_wrongNumber_4 : decode b_Md_wrongNumber 4 = .ok (.iload_n 1, 1) := by decide +kernel
theorem d_Md_wrongNumber_5 : decode b_Md_wrongNumber 5 = .ok (.iaload, 1) := by decide +kernel
theorem d_Md_wrongNumber_6 : decode b_Md_wrongNumber 6 = .ok (.istore_n 2, 1) := by decide +kernel
theorem d_Md_wrongNumber_7 : decode b_Md_wrongNumber 7 = .ok (.iload_n 2, 1) := by decide +kernel
theorem d_Md_wrongNumber_8 : decode b_Md_wrongNumber 8 = .ok (.bipush 7, 2) := by decide +kernel
theorem d_Md_wrongNumber_10 : decode b_Md_wrongNumber 10 = .ok (.if_icmp .ne 20, 3) := by decide +kernel
theorem d_Md_wrongNumber_13 : decode b_Md_wrongNumber 13 = .ok (.aload_n 0, 1) := by decide +kernel
theorem d_Md_wrongNumber_14 : decode b_Md_wrongNumber 14 = .ok (.getfield 19, 3) := by decide +kernel
theorem d_Md_wrongNumber_17 : decode b_Md_wrongNumber 17 = .ok (.iload_n 1, 1) := by decide +kernel
theorem d_Md_wrongNumber_18 : decode b_Md_wrongNumber 18 = .ok (.iaload, 1) := by decide +kernel
theorem d_Md_wrongNumber_19 : decode b_Md_wrongNumber 19 = .ok (.i2l, 1) := by decide +kernel
theorem d_Md_wrongNumber_20 : decode b_Md_wrongNumber 20 = .ok (.lconst 0, 1) := by decide +kernel
theorem d_Md_wrongNumber_21 : decode b_Md_wrongNumber 21 = .ok (.ldc2_w 98, 3) := by decide +kernel
theorem d_Md_wrongNumber_24 : decode b_Md_wrongNumber 24 = .ok (.invokestatic 56, 3) := by decide +kernel
theorem d_Md_wrongNumber_27 : decode b_Md_wrongNumber 27 = .ok (.ifCond .eq 41, 3) := by decide +kernel
theorem d_Md_wrongNumber_30 : decode b_Md_wrongNumber 30 = .ok (.iload_n 2, 1) := by decide +kernel
theorem d_Md_wrongNumber_31 : decode b_Md_wrongNumber 31 = .ok (.bipush 8, 2) := by decide +kernel
theorem d_Md_wrongNumber_33 : decode b_Md_wrongNumber 33 = .ok (.if_icmp .ne 12, 3) := by decide +kernel
theorem d_Md_wrongNumber_36 : decode b_Md_wrongNumber 36 = .ok (.aload_n 0, 1) := by decide +kernel
theorem d_Md_wrongNumber_37 : decode b_Md_wrongNumber 37 = .ok (.getfield 19, 3) := by decide +kernel
theorem d_Md_wrongNumber_40 : decode b_Md_wrongNumber 40 = .ok (.iload_n 1, 1) := by decide +kernel
theorem d_Md_wrongNumber_41 : decode b_Md_wrongNumber 41 = .ok (.iaload, 1) := by decide +kernel
theorem d_Md_wrongNumber_42 : decode b_Md_wrongNumber 42 = .ok (.ifCond .eq 26, 3) := by decide +kernel
theorem d_Md_wrongNumber_45 : decode b_Md_wrongNumber 45 = .ok (.iload_n 2, 1) := by decide +kernel
theorem d_Md_wrongNumber_46 : decode b_Md_wrongNumber 46 = .ok (.bipush 16, 2) := by decide +kernel
theorem d_Md_wrongNumber_48 : decode b_Md_wrongNumber 48 = .ok (.if_icmp .ne 24, 3) := by decide +kernel
theorem d_Md_wrongNumber_51 : decode b_Md_wrongNumber 51 = .ok (.aload_n 0, 1) := by decide +kernel
theorem d_Md_wrongNumber_52 : decode b_Md_wrongNumber 52 = .ok (.getfield 19, 3) := by decide +kernel
theorem d_Md_wrongNumber_55 : decode b_Md_wrongNumber 55 = .ok (.iload_n 1, 1) := by decide +kernel
theorem d_Md_wrongNumber_56 : decode b_Md_wrongNumber 56 = .ok (.iaload, 1) := by decide +kernel
theorem d_Md_wrongNumber_57 : decode b_Md_wrongNumber 57 = .ok (.i2l, 1) := by decide +kernel
theorem d_Md_wrongNumber_58 : decode b_Md_wrongNumber 58 = .ok (.lconst 0, 1) := by decide +kernel
theorem d_Md_wrongNumber_59 : decode b_Md_wrongNumber 59 = .ok (.ldc2_w 100, 3) := by decide +kernel
theorem d_Md_wrongNumber_62 : decode b_Md_wrongNumber 62 = .ok (.invokestatic 56, 3) := by decide +kernel
theorem d_Md_wrongNumber_65 : decode b_Md_wrongNumber 65 = .ok (.ifCond .ne 7, 3) := by decide +kernel
theorem d_Md_wrongNumber_68 : decode b_Md_wrongNumber 68 = .ok (.iconst 1, 1) := by decide +kernel
theorem d_Md_wrongNumber_69 : decode b_Md_wrongNumber 69 = .ok (.goto 4, 3) := by decide +kernel
theorem d_Md_wrongNumber_72 : decode b_Md_wrongNumber 72 = .ok (.iconst 0, 1) := by decide +kernel
theorem d_Md_wrongNumber_73 : decode b_Md_wrongNumber 73 = .ok (.ireturn, 1) := by decide +kernel
theorem d_Md_wrongKind_0 : decode b_Md_wrongKind 0 = .ok (.aload_n 0, 1) := by decide +kernel
theorem d_Md_wrongKind_1 : decode b_Md_wrongKind 1 = .ok (.getfield 7, 3) := by decide +kernel
theorem d_Md_wrongKind_4 : decode b_Md_wrongKind 4 = .ok (.iload_n 1, 1) := by decide +kernel
theorem d_Md_wrongKind_5 : decode b_Md_wrongKind 5 = .ok (.iaload, 1) := by decide +kernel
theorem d_Md_wrongKind_6 : decode b_Md_wrongKind 6 = .ok (.istore_n 2, 1) := by decide +kernel
theorem d_Md_wrongKind_7 : decode b_Md_wrongKind 7 = .ok (.aload_n 0, 1) := by decide +kernel
theorem d_Md_wrongKind_8 : decode b_Md_wrongKind 8 = .ok (.getfield 13, 3) := by decide +kernel
theorem d_Md_wrongKind_11 : decode b_Md_wrongKind 11 = .ok (.iload_n 1, 1) := by decide +kernel
theorem d_Md_wrongKind_12 : decode b_Md_wrongKind 12 = .ok (.iaload, 1) := by decide +kernel
theorem d_Md_wrongKind_13 : decode b_Md_wrongKind 13 = .ok (.istore_n 3, 1) := by decide +kernel
theorem d_Md_wrongKind_14 : decode b_Md_wrongKind 14 = .ok (.aload_n 0, 1) := by decide +kernel
theorem d_Md_wrongKind_15 : decode b_Md_wrongKind 15 = .ok (.getfield 16, 3) := by decide +kernel
theorem d_Md_wrongKind_18 : decode b_Md_wrongKind 18 = .ok (.iload_n 1, 1) := by decide +kernel
theorem d_Md_wrongKind_19 : decode b_Md_wrongKind 19 = .ok (.iaload, 1) := by decide +kernel
theorem d_Md_wrongKind_20 : decode b_Md_wrongKind 20 = .ok (.istore 4, 2) := by decide +kernel
theorem d_Md_wrongKind_22 : decode b_Md_wrongKind 22 = .ok (.iload_n 2, 1) := by decide +kernel
theorem d_Md_wrongKind_23 : decode b_Md_wrongKind 23 = .ok (.iconst 2, 1) := by decide +kernel
theorem d_Md_wrongKind_24 : decode b_Md_wrongKind 24 = .ok (.if_icmp .lt 9, 3) := by decide +kernel
theorem d_Md_wrongKind_27 : decode b_Md_wrongKind 27 = .ok (.iload_n 2, 1) := by decide +kernel
theorem d_Md_wrongKind_28 : decode b_Md_wrongKind 28 = .ok (.bipush 13, 2) := by decide +kernel
theorem d_Md_wrongKind_30 : decode b_Md_wrongKind 30 = .ok (.if_icmp .ne 5, 3) := by decide +kernel
theorem d_Md_wrongKind_33 : decode b_Md_wrongKind 33 = .ok (.iconst 0, 1) := by decide +kernel
theorem d_Md_wrongKind_34 : decode b_Md_wrongKind 34 = .ok (.ireturn, 1) := by decide +kernel
theorem d_Md_wrongKind_35 : decode b_Md_wrongKind 35 = .ok (.iload_n 2, 1) := by decide +kernel
theorem d_Md_wrongKind_36 : decode b_Md_wrongKind 36 = .ok (.iconst 2, 1) := by decide +kernel
theorem d_Md_wrongKind_37 : decode b_Md_wrongKind 37 = .ok (.if_icmp .ne 27, 3) := by decide +kernel
theorem d_Md_wrongKind_40 : decode b_Md_wrongKind 40 = .ok (.aload_n 0, 1) := by decide +kernel
theorem d_Md_wrongKind_41 : decode b_Md_wrongKind 41 = .ok (.getfield 25, 3) := by decide +kernel
theorem d_Md_wrongKind_44 : decode b_Md_wrongKind 44 = .ok (.iload_n 3, 1) := by decide +kernel
theorem d_Md_wrongKind_45 : decode b_Md_wrongKind 45 = .ok (.iaload, 1) := by decide +kernel
theorem d_Md_wrongKind_46 : decode b_Md_wrongKind 46 = .ok (.iconst 1, 1) := by decide +kernel
theorem d_Md_wrongKind_47 : decode b_Md_wrongKind 47 = .ok (.if_icmp .eq 15, 3) := by decide +kernel
theorem d_Md_wrongKind_50 : decode b_Md_wrongKind 50 = .ok (.aload_n 0, 1) := by decide +kernel
theorem d_Md_wrongKind_51 : decode b_Md_wrongKind 51 = .ok (.iload_n 3, 1) := by decide +kernel
theorem d_Md_wrongKind_52 : decode b_Md_wrongKind 52 = .ok (.invokevirtual 102, 3) := by decide +kernel
theorem d_Md_wrongKind_55 : decode b_Md_wrongKind 55 = .ok (.ifCond .ne 7, 3) := by decide +kernel
theorem d_Md_wrongKind_58 : decode b_Md_wrongKind 58 = .ok (.iconst 1, 1) := by decide +kernel
theorem d_Md_wrongKind_59 : decode b_Md_wrongKind 59 = .ok (.goto 4, 3) := by decide +kernel
theorem d_Md_wrongKind_62 : decode b_Md_wrongKind 62 = .ok (.iconst 0, 1) := by decide +kernel
theorem d_Md_wrongKind_63 : decode b_Md_wrongKind 63 = .ok (.ireturn, 1) := by decide +kernel
theorem d_Md_wrongKind_64 : decode b_Md_wrongKind 64 = .ok (.iload_n 2, 1) := by decide +kernel
theorem d_Md_wrongKind_65 : decode b_Md_wrongKind 65 = .ok (.iconst 3, 1) := by decide +kernel
theorem d_Md_wrongKind_66 : decode b_Md_wrongKind 66 = .ok (.if_icmp .ne 38, 3) := by decide +kernel
theorem d_Md_wrongKind_69 : decode b_Md_wrongKind 69 = .ok (.aload_n 0, 1) := by decide +kernel
theorem d_Md_wrongKind_70 : decode b_Md_wrongKind 70 = .ok (.getfield 25, 3) := by decide +kernel
theorem d_Md_wrongKind_73 : decode b_Md_wrongKind 73 = .ok (.iload_n 3, 1) := by decide +kernel
theorem d_Md_wrongKind_74 : decode b_Md_wrongKind 74 = .ok (.iaload, 1) := by decide +kernel
theorem d_Md_wrongKind_75 : decode b_Md_wrongKind 75 = .ok (.iconst 1, 1) := by decide +kernel
theorem d_Md_wrongKind_76 : decode b_Md_wrongKind 76 = .ok (.if_icmp .eq 11, 3) := by decide +kernel
theorem d_Md_wrongKind_79 : decode b_Md_wrongKind 79 = .ok (.aload_n 0, 1) := by decide +kernel
theorem d_Md_wrongKind_80 : decode b_Md_wrongKind 80 = .ok (.iload_n 3, 1) := by decide +kernel
theorem d_Md_wrongKind_81 : decode b_Md_wrongKind 81 = .ok (.invokevirtual 102, 3) := by decide +kernel
theorem d_Md_wrongKind_84 : decode b_Md_wrongKind 84 = .ok (.ifCond .eq 14, 3) := by decide +kernel
theorem d_Md_wrongKind_87 : decode b_Md_wrongKind 87 = .ok (.aload_n 0, 1) := by decide +kernel
theorem d_Md_wrongKind_88 : decode b_Md_wrongKind 88 = .ok (.getfield 25, 3) := by decide +kernel
theorem d_Md_wrongKind_91 : decode b_Md_wrongKind 91 = .ok (.iload 4, 2) := by decide +kernel
theorem d_Md_wrongKind_93 : decode b_Md_wrongKind 93 = .ok (.iaload, 1) := by decide +kernel
theorem d_Md_wrongKind_94 : decode b_Md_wrongKind 94 = .ok (.iconst 1, 1) := by decide +kernel
theorem d_Md_wrongKind_95 : decode b_Md_wrongKind 95 = .ok (.if_icmp .eq 7, 3) := by decide +kernel
theorem d_Md_wrongKind_98 : decode b_Md_wrongKind 98 = .ok (.iconst 1, 1) := by decide +kernel
theorem d_Md_wrongKind_99 : decode b_Md_wrongKind 99 = .ok (.goto 4, 3) := by decide +kernel
theorem d_Md_wrongKind_102 : decode b_Md_wrongKind 102 = .ok (.iconst 0, 1) := by decide +kernel
theorem d_Md_wrongKind_103 : decode b_Md_wrongKind 103 = .ok (.ireturn, 1) := by decide +kernel
theorem d_Md_wrongKind_104 : decode b_Md_wrongKind 104 = .ok (.iload_n 2, 1) := by decide +kernel
theorem d_Md_wrongKind_105 : decode b_Md_wrongKind 105 = .ok (.iconst 4, 1) := by decide +kernel
theorem d_Md_wrongKind_106 : decode b_Md_wrongKind 106 = .ok (.if_icmp .eq 9, 3) := by decide +kernel
theorem d_Md_wrongKind_109 : decode b_Md_wrongKind 109 = .ok (.iload_n 2, 1) := by decide +kernel
theorem d_Md_wrongKind_110 : decode b_Md_wrongKind 110 = .ok (.bipush 12, 2) := by decide +kernel
theorem d_Md_wrongKind_112 : decode b_Md_wrongKind 112 = .ok (.if_icmp .ne 30, 3) := by decide +kernel
theorem d_Md_wrongKind_115 : decode b_Md_wrongKind 115 = .ok (.aload_n 0, 1) := by decide +kernel
theorem d_Md_wrongKind_116 : decode b_Md_wrongKind 116 = .ok (.getfield 25, 3) := by decide +kernel
theorem d_Md_wrongKind_119 : decode b_Md_wrongKind 119 = .ok (.iload_n 3, 1) := by decide +kernel
theorem d_Md_wrongKind_120 : decode b_Md_wrongKind 120 = .ok (.iaload, 1) := by decide +kernel
theorem d_Md_wrongKind_121 : decode b_Md_wrongKind 121 = .ok (.iconst 1, 1) := by decide +kernel
theorem d_Md_wrongKind_122 : decode b_Md_wrongKind 122 = .ok (.if_icmp .ne 14, 3) := by decide +kernel
theorem d_Md_wrongKind_125 : decode b_Md_wrongKind 125 = .ok (.aload_n 0, 1) := by decide +kernel
theorem d_Md_wrongKind_126 : decode b_Md_wrongKind 126 = .ok (.getfield 25, 3) := by decide +kernel
theorem d_Md_wrongKind_129 : decode b_Md_wrongKind 129 = .ok (.iload 4, 2) := by decide +kernel
theorem d_Md_wrongKind_131 : decode b_Md_wrongKind 131 = .ok (.iaload, 1) := by decide +kernel
theorem d_Md_wrongKind_132 : decode b_Md_wrongKind 132 = .ok (.iconst 1, 1) := by decide +kernel
theorem d_Md_wrongKind_133 : decode b_Md_wrongKind 133 = .ok (.if_icmp .eq 7, 3) := by decide +kernel
theorem d_Md_wrongKind_136 : decode b_Md_wrongKind 136 = .ok (.iconst 1, 1) := by decide +kernel
theorem d_Md_wrongKind_137 : decode b_Md_wrongKind 137 = .ok (.goto 4, 3) := by decide +kernel
theorem d_Md_wrongKind_140 : decode b_Md_wrongKind 140 = .ok (.iconst 0, 1) := by decide +kernel
theorem d_Md_wrongKind_141 : decode b_Md_wrongKind 141 = .ok (.ireturn, 1) := by decide +kernel
theorem d_Md_wrongKind_142 : decode b_Md_wrongKind 142 = .ok (.iload_n 2, 1) := by decide +kernel
theorem d_Md_wrongKind_143 : decode b_Md_wrongKind 143 = .ok (.bipush 10, 2) := by decide +kernel
theorem d_Md_wrongKind_145 : decode b_Md_wrongKind 145 = .ok (.if_icmp .ne 38, 3) := by decide +kernel
theorem d_Md_wrongKind_148 : decode b_Md_wrongKind 148 = .ok (.aload_n 0, 1) := by decide +kernel
theorem d_Md_wrongKind_149 : decode b_Md_wrongKind 149 = .ok (.getfield 25, 3) := by decide +kernel
theorem d_Md_wrongKind_152 : decode b_Md_wrongKind 152 = .ok (.iload_n 3, 1) := by decide +kernel
theorem d_Md_wrongKind_153 : decode b_Md_wrongKind 153 = .ok (.iaload, 1) := by decide +kernel
theorem d_Md_wrongKind_154 : decode b_Md_wrongKind 154 = .ok (.iconst 1, 1) := by decide +kernel
theorem d_Md_wrongKind_155 : decode b_Md_wrongKind 155 = .ok (.if_icmp .eq 26, 3) := by decide +kernel
theorem d_Md_wrongKind_158 : decode b_Md_wrongKind 158 = .ok (.aload_n 0, 1) := by decide +kernel
theorem d_Md_wrongKind_159 : decode b_Md_wrongKind 159 = .ok (.getfield 25, 3) := by decide +kernel
theorem d_Md_wrongKind_162 : decode b_Md_wrongKind 162 = .ok (.iload_n 3, 1) := by decide +kernel
theorem d_Md_wrongKind_163 : decode b_Md_wrongKind 163 = .ok (.iaload, 1) := by decide +kernel
theorem d_Md_wrongKind_164 : decode b_Md_wrongKind 164 = .ok (.iconst 4, 1) := by decide +kernel
theorem d_Md_wrongKind_165 : decode b_Md_wrongKind 165 = .ok (.if_icmp .ne 12, 3) := by decide +kernel
theorem d_Md_wrongKind_168 : decode b_Md_wrongKind 168 = .ok (.aload_n 0, 1) := by decide +kernel
theorem d_Md_wrongKind_169 : decode b_Md_wrongKind 169 = .ok (.getfield 19, 3) := by decide +kernel
theorem d_Md_wrongKind_172 : decode b_Md_wrongKind 172 = .ok (.iload_n 1, 1) := by decide +kernel
theorem d_Md_wrongKind_173 : decode b_Md_wrongKind 173 = .ok (.iaload, 1) := by decide +kernel
theorem d_Md_wrongKind_174 : decode b_Md_wrongKind 174 = .ok (.ifCond .eq 7, 3) := by decide +kernel
theorem d_Md_wrongKind_177 : decode b_Md_wrongKind 177 = .ok (.iconst 1, 1) := by decide +kernel
theorem d_Md_wrongKind_178 : decode b_Md_wrongKind 178 = .ok (.goto 4, 3) := by decide +kernel
theorem d_Md_wrongKind_181 : decode b_Md_wrongKind 181 = .ok (.iconst 0, 1) := by decide +kernel
theorem d_Md_wrongKind_182 : decode b_Md_wrongKind 182 = .ok (.ireturn, 1) := by decide +kernel
theorem d_Md_wrongKind_183 : decode b_Md_wrongKind 183 = .ok (.iload_n 2, 1) := by decide +kernel
theorem d_Md_wrongKind_184 : decode b_Md_wrongKind 184 = .ok (.bipush 12, 2) := by decide +kernel
theorem d_Md_wrongKind_186 : decode b_Md_wrongKind 186 = .ok (.if_icmp .ge 19, 3) := by decide +kernel
theorem d_Md_wrongKind_189 : decode b_Md_wrongKind 189 = .ok (.aload_n 0, 1) := by decide +kernel
theorem d_Md_wrongKind_190 : decode b_Md_wrongKind 190 = .ok (.getfield 25, 3) := by decide +kernel
theorem d_Md_wrongKind_193 : decode b_Md_wrongKind 193 = .ok (.iload_n 3, 1) := by decide +kernel
theorem d_Md_wrongKind_194 : decode b_Md_wrongKind 194 = .ok (.iaload, 1) := by decide +kernel
theorem d_Md_wrongKind_195 : decode b_Md_wrongKind 195 = .ok (.iconst 1, 1) := by decide +kernel
theorem d_Md_wrongKind_196 : decode b_Md_wrongKind 196 = .ok (.if_icmp .eq 7, 3) := by decide +kernel
theorem d_Md_wrongKind_199 : decode b_Md_wrongKind 199 = .ok (.iconst 1, 1) := by decide +kernel
theorem d_Md_wrongKind_200 : decode b_Md_wrongKind 200 = .ok (.goto 4, 3) := by decide +kernel
theorem d_Md_wrongKind_203 : decode b_Md_wrongKind 203 = .ok (.iconst 0, 1) := by decide +kernel
theorem d_Md_wrongKind_204 : decode b_Md_wrongKind 204 = .ok (.ireturn, 1) := by decide +kernel
theorem d_Md_wrongKind_205 : decode b_Md_wrongKind 205 = .ok (.iload_n 2, 1) := by decide +kernel
theorem d_Md_wrongKind_206 : decode b_Md_wrongKind 206 = .ok (.bipush 14, 2) := by decide +kernel
theorem d_Md_wrongKind_208 : decode b_Md_wrongKind 208 = .ok (.if_icmp .ne 18, 3) := by decide +kernel
theorem d_Md_wrongKind_211 : decode b_Md_wrongKind 211 = .ok (.aload_n 0, 1) := by decide +kernel
theorem d_Md_wrongKind_212 : decode b_Md_wrongKind 212 = .ok (.iload 4, 2) := by decide +kernel
theorem d_Md_wrongKind_214 : decode b_Md_wrongKind 214 = .ok (.invokevirtual 102, 3) := by decide +kernel
theorem d_Md_wrongKind_217 : decode b_Md_wrongKind 217 = .ok (.ifCond .ne 7, 3) := by decide +kernel
theorem d_Md_wrongKind_220 : decode b_Md_wrongKind 220 = .ok (.iconst 1, 1) := by decide +kernel
theorem d_Md_wrongKind_221 : decode b_Md_wrongKind 221 = .ok (.goto 4, 3) := by decide +kernel
theorem d_Md_wrongKind_224 : decode b_Md_wrongKind 224 = .ok (.iconst 0, 1) := by decide +kernel
theorem d_Md_wrongKind_225 : decode b_Md_wrongKind 225 = .ok (.ireturn, 1) := by decide +kernel
theorem d_Md_wrongKind_226 : decode b_Md_wrongKind 226 = .ok (.iload_n 2, 1) := by decide +kernel
theorem d_Md_wrongKind_227 : decode b_Md_wrongKind 227 = .ok (.bipush 15, 2) := by decide +kernel
theorem d_Md_wrongKind_229 : decode b_Md_wrongKind 229 = .ok (.if_icmp .ne 54, 3) := by decide +kernel
theorem d_Md_wrongKind_232 : decode b_Md_wrongKind 232 = .ok (.aload_n 0, 1) := by decide +kernel
theorem d_Md_wrongKind_233 : decode b_Md_wrongKind 233 = .ok (.iload_n 3, 1) := by decide +kernel
theorem d_Md_wrongKind_234 : decode b_Md_wrongKind 234 = .ok (.invokevirtual 102, 3) := by decide +kernel
theorem d_Md_wrongKind_237 : decode b_Md_wrongKind 237 = .ok (.ifCond .eq 40, 3) := by decide +kernel
theorem d_Md_wrongKind_240 : decode b_Md_wrongKind 240 = .ok (.aload_n 0, 1) := by decide +kernel
theorem d_Md_wrongKind_241 : decode b_Md_wrongKind 241 = .ok (.getfield 25, 3) := by decide +kernel
theorem d_Md_wrongKind_244 : decode b_Md_wrongKind 244 = .ok (.iload_n 3, 1) := by decide +kernel
theorem d_Md_wrongKind_245 : decode b_Md_wrongKind 245 = .ok (.iaload, 1) := by decide +kernel
theorem d_Md_wrongKind_246 : decode b_Md_wrongKind 246 = .ok (.iconst 3, 1) := by decide +kernel
theorem d_Md_wrongKind_247 : decode b_Md_wrongKind 247 = .ok (.if_icmp .eq 19, 3) := by decide +kernel
theorem d_Md_wrongKind_250 : decode b_Md_wrongKind 250 = .ok (.aload_n 0, 1) := by decide +kernel
theorem d_Md_wrongKind_251 : decode b_Md_wrongKind 251 = .ok (.getfield 28, 3) := by decide +kernel
theorem d_Md_wrongKind_254 : decode b_Md_wrongKind 254 = .ok (.iload_n 3, 1) := by decide +kernel
theorem d_Md_wrongKind_255 : decode b_Md_wrongKind 255 = .ok (.laload, 1) := by decide +kernel
theorem d_Md_wrongKind_256 : decode b_Md_wrongKind 256 = .ok (.aload_n 0, 1) := by decide +kernel
theorem d_Md_wrongKind_257 : decode b_Md_wrongKind 257 = .ok (.getfield 32, 3) := by decide +kernel
theorem d_Md_wrongKind_260 : decode b_Md_wrongKind 260 = .ok (.iload_n 3, 1) := by decide +kernel
theorem d_Md_wrongKind_261 : decode b_Md_wrongKind 261 = .ok (.laload, 1) := by decide +kernel
theorem d_Md_wrongKind_262 : decode b_Md_wrongKind 262 = .ok (.lcmp, 1) := by decide +kernel
theorem d_Md_wrongKind_263 : decode b_Md_wrongKind 263 = .ok (.ifCond .eq 18, 3) := by decide +kernel
theorem d_Md_wrongKind_266 : decode b_Md_wrongKind 266 = .ok (.aload_n 0, 1) := by decide +kernel
theorem d_Md_wrongKind_267 : decode b_Md_wrongKind 267 = .ok (.getfield 25, 3) := by decide +kernel
theorem d_Md_wrongKind_270 : decode b_Md_wrongKind 270 = .ok (.iload 4, 2) := by decide +kernel
theorem d_Md_wrongKind_272 : decode b_Md_wrongKind 272 = .ok (.iaload, 1) := by decide +kernel
theorem d_Md_wrongKind_273 : decode b_Md_wrongKind 273 = .ok (.iconst 1, 1) := by decide +kernel
theorem d_Md_wrongKind_274 : decode b_Md_wrongKind 274 = .ok (.if_icmp .eq 7, 3) := by decide +kernel
theorem d_Md_wrongKind_277 : decode b_Md_wrongKind 277 = .ok (.iconst 1, 1) := by decide +kernel
theorem d_Md_wrongKind_278 : decode b_Md_wrongKind 278 = .ok (.goto 4, 3) := by decide +kernel
theorem d_Md_wrongKind_281 : decode b_Md_wrongKind 281 = .ok (.iconst 0, 1) := by decide +kernel
theorem d_Md_wrongKind_282 : decode b_Md_wrongKind 282 = .ok (.ireturn, 1) := by decide +kernel
theorem d_Md_wrongKind_283 : decode b_Md_wrongKind 283 = .ok (.iload_n 2, 1) := by decide +kernel
theorem d_Md_wrongKind_284 : decode b_Md_wrongKind 284 = .ok (.bipush 17, 2) := by decide +kernel
theorem d_Md_wrongKind_286 : decode b_Md_wrongKind 286 = .ok (.if_icmp .ne 19, 3) := by decide +kernel
theorem d_Md_wrongKind_289 : decode b_Md_wrongKind 289 = .ok (.aload_n 0, 1) := by decide +kernel
theorem d_Md_wrongKind_290 : decode b_Md_wrongKind 290 = .ok (.getfield 25, 3) := by decide +kernel
theorem d_Md_wrongKind_293 : decode b_Md_wrongKind 293 = .ok (.iconst 0, 1) := by decide +kernel
theorem d_Md_wrongKind_294 : decode b_Md_wrongKind 294 = .ok (.iaload, 1) := by decide +kernel
theorem d_Md_wrongKind_295 : decode b_Md_wrongKind 295 = .ok (.iconst 1, 1) := by decide +kernel
theorem d_Md_wrongKind_296 : decode b_Md_wrongKind 296 = .ok (.if_icmp .eq 7, 3) := by decide +kernel
theorem d_Md_wrongKind_299 : decode b_Md_wrongKind 299 = .ok (.iconst 1, 1) := by decide +kernel
theorem d_Md_wrongKind_300 : decode b_Md_wrongKind 300 = .ok (.goto 4, 3) := by decide +kernel
theorem d_Md_wrongKind_303 : decode b_Md_wrongKind 303 = .ok (.iconst 0, 1) := by decide +kernel
theorem d_Md_wrongKind_304 : decode b_Md_wrongKind 304 = .ok (.ireturn, 1) := by decide +kernel
theorem d_Md_wrongKind_305 : decode b_Md_wrongKind 305 = .ok (.aload_n 0, 1) := by decide +kernel
theorem d_Md_wrongKind_306 : decode b_Md_wrongKind 306 = .ok (.getfield 19, 3) := by decide +kernel
theorem d_Md_wrongKind_309 : decode b_Md_wrongKind 309 = .ok (.iload_n 1, 1) := by decide +kernel
theorem d_Md_wrongKind_310 : decode b_Md_wrongKind 310 = .ok (.iaload, 1) := by decide +kernel
theorem d_Md_wrongKind_311 : decode b_Md_wrongKind 311 = .ok (.ifCond .le 13, 3) := by decide +kernel
theorem d_Md_wrongKind_314 : decode b_Md_wrongKind 314 = .ok (.aload_n 0, 1) := by decide +kernel
theorem d_Md_wrongKind_315 : decode b_Md_wrongKind 315 = .ok (.getfield 25, 3) := by decide +kernel
theorem d_Md_wrongKind_318 : decode b_Md_wrongKind 318 = .ok (.iconst 1, 1) := by decide +kernel
theorem d_Md_wrongKind_319 : decode b_Md_wrongKind 319 = .ok (.iaload, 1) := by decide +kernel
theorem d_Md_wrongKind_320 : decode b_Md_wrongKind 320 = .ok (.iconst 1, 1) := by decide +kernel
theorem d_Md_wrongKind_321 : decode b_Md_wrongKind 321 = .ok (.if_icmp .ne 23, 3) := by decide +kernel
theorem d_Md_wrongKind_324 : decode b_Md_wrongKind 324 = .ok (.aload_n 0, 1) := by decide +kernel
theorem d_Md_wrongKind_325 : decode b_Md_wrongKind 325 = .ok (.getfield 19, 3) := by decide +kernel
theorem d_Md_wrongKind_328 : decode b_Md_wrongKind 328 = .ok (.iload_n 1, 1) := by decide +kernel
theorem d_Md_wrongKind_329 : decode b_Md_wrongKind 329 = .ok (.iaload, 1) := by decide +kernel
theorem d_Md_wrongKind_330 : decode b_Md_wrongKind 330 = .ok (.iconst 2, 1) := by decide +kernel
theorem d_Md_wrongKind_331 : decode b_Md_wrongKind 331 = .ok (.if_icmp .ne 17, 3) := by decide +kernel
theorem d_Md_wrongKind_334 : decode b_Md_wrongKind 334 = .ok (.aload_n 0, 1) := by decide +kernel
theorem d_Md_wrongKind_335 : decode b_Md_wrongKind 335 = .ok (.getfield 25, 3) := by decide +kernel
theorem d_Md_wrongKind_338 : decode b_Md_wrongKind 338 = .ok (.iconst 2, 1) := by decide +kernel
theorem d_Md_wrongKind_339 : decode b_Md_wrongKind 339 = .ok (.iaload, 1) := by decide +kernel
theorem d_Md_wrongKind_340 : decode b_Md_wrongKind 340 = .ok (.iconst 1, 1) := by decide +kernel
theorem d_Md_wrongKind_341 : decode b_Md_wrongKind 341 = .ok (.if_icmp .eq 7, 3) := by decide +kernel
theorem d_Md_wrongKind_344 : decode b_Md_wrongKind 344 = .ok (.iconst 1, 1) := by decide +kernel
theorem d_Md_wrongKind_345 : decode b_Md_wrongKind 345 = .ok (.goto 4, 3) := by decide +kernel
theorem d_Md_wrongKind_348 : decode b_Md_wrongKind 348 = .ok (.iconst 0, 1) := by decide +kernel
theorem d_Md_wrongKind_349 : decode b_Md_wrongKind 349 = .ok (.ireturn, 1) := by decide +kernel
theorem d_Md_wrongPlace_0 : decode b_Md_wrongPlace 0 = .ok (.aload_n 0, 1) := by decide +kernel
theorem d_Md_wrongPlace_1 : decode b_Md_wrongPlace 1 = .ok (.getfield 7, 3) := by decide +kernel
theorem d_Md_wrongPlace_4 : decode b_Md_wrongPlace 4 = .ok (.iload_n 1, 1) := by decide +kernel
theorem d_Md_wrongPlace_5 : decode b_Md_wrongPlace 5 = .ok (.iaload, 1) := by decide +kernel
theorem d_Md_wrongPlace_6 : decode b_Md_wrongPlace 6 = .ok (.istore_n 2, 1) := by decide +kernel
theorem d_Md_wrongPlace_7 : decode b_Md_wrongPlace 7 = .ok (.aload_n 0, 1) := by decide +kernel
theorem d_Md_wrongPlace_8 : decode b_Md_wrongPlace 8 = .ok (.getfield 13, 3) := by decide +kernel
theorem d_Md_wrongPlace_11 : decode b_Md_wrongPlace 11 = .ok (.iload_n 1, 1) := by decide +kernel
theorem d_Md_wrongPlace_12 : decode b_Md_wrongPlace 12 = .ok (.iaload, 1) := by decide +kernel
theorem d_Md_wrongPlace_13 : decode b_Md_wrongPlace 13 = .ok (.istore_n 3, 1) := by decide +kernel
theorem d_Md_wrongPlace_14 : decode b_Md_wrongPlace 14 = .ok (.aload_n 0, 1) := by decide +kernel
theorem d_Md_wrongPlace_15 : decode b_Md_wrongPlace 15 = .ok (.getfield 16, 3) := by decide +kernel
theorem d_Md_wrongPlace_18 : decode b_Md_wrongPlace 18 = .ok (.iload_n 1, 1) := by decide +kernel
theorem d_Md_wrongPlace_19 : decode b_Md_wrongPlace 19 = .ok (.iaload, 1) := by decide +kernel
theorem d_Md_wrongPlace_20 : decode b_Md_wrongPlace 20 = .ok (.istore 4, 2) := by decide +kernel
theorem d_Md_wrongPlace_22 : decode b_Md_wrongPlace 22 = .ok (.iload_n 2, 1) := by decide +kernel
theorem d_Md_wrongPlace_23 : decode b_Md_wrongPlace 23 = .ok (.iconst 2, 1) := by decide +kernel
theorem d_Md_wrongPlace_24 : decode b_Md_wrongPlace 24 = .ok (.if_icmp .eq 8, 3) := by decide +kernel
theorem d_Md_wrongPlace_27 : decode b_Md_wrongPlace 27 = .ok (.iload_n 2, 1) := by decide +kernel
theorem d_Md_wrongPlace_28 : decode b_Md_wrongPlace 28 = .ok (.iconst 3, 1) := by decide +kernel
theorem d_Md_wrongPlace_29 : decode b_Md_wrongPlace 29 = .ok (.if_icmp .ne 135, 3) := by decide +kernel
theorem d_Md_wrongPlace_32 : decode b_Md_wrongPlace 32 = .ok (.aload_n 0, 1) := by decide +kernel
theorem d_Md_wrongPlace_33 : decode b_Md_wrongPlace 33 = .ok (.iload_n 3, 1) := by decide +kernel
theorem d_Md_wrongPlace_34 : decode b_Md_wrongPlace 34 = .ok (.invokevirtual 102, 3) := by decide +kernel
theorem d_Md_wrongPlace_37 : decode b_Md_wrongPlace 37 = .ok (.ifCond .eq 127, 3) := by decide +kernel
theorem d_Md_wrongPlace_40 : decode b_Md_wrongPlace 40 = .ok (.iload_n 2, 1) := by decide +kernel
theorem d_Md_wrongPlace_41 : decode b_Md_wrongPlace 41 = .ok (.iconst 2, 1) := by decide +kernel
theorem d_Md_wrongPlace_42 : decode b_Md_wrongPlace 42 = .ok (.if_icmp .ne 13, 3) := by decide +kernel
theorem d_Md_wrongPlace_45 : decode b_Md_wrongPlace 45 = .ok (.aload_n 0, 1) := by decide +kernel
theorem d_Md_wrongPlace_46 : decode b_Md_wrongPlace 46 = .ok (.getfield 19, 3) := by decide +kernel
theorem d_Md_wrongPlace_49 : decode b_Md_wrongPlace 49 = .ok (.iload_n 1, 1) := by decide +kernel
theorem d_Md_wrongPlace_50 : decode b_Md_wrongPlace 50 = .ok (.iaload, 1) := by decide +kernel
theorem d_Md_wrongPlace_51 : decode b_Md_wrongPlace 51 = .ok (.i2l, 1) := by decide +kernel
theorem d_Md_wrongPlace_52 : decode b_Md_wrongPlace 52 = .ok (.goto 10, 3) := by decide +kernel
theorem d_Md_wrongPlace_55 : decode b_Md_wrongPlace 55 = .ok (.aload_n 0, 1) := by decide +kernel
theorem d_Md_wrongPlace_56 : decode b_Md_wrongPlace 56 = .ok (.getfield 28, 3) := by decide +kernel
theorem d_Md_wrongPlace_59 : decode b_Md_wrongPlace 59 = .ok (.iload 4, 2) := by decide +kernel
theorem d_Md_wrongPlace_61 : decode b_Md_wrongPlace 61 = .ok (.laload, 1) := by decide +kernel
theorem d_Md_wrongPlace_62 : decode b_Md_wrongPlace 62 = .ok (.lstore 5, 2) := by decide +kernel
theorem d_Md_wrongPlace_64 : decode b_Md_wrongPlace 64 = .ok (.iload_n 2, 1) := by decide +kernel
theorem d_Md_wrongPlace_65 : decode b_Md_wrongPlace 65 = .ok (.iconst 2, 1) := by decide +kernel
theorem d_Md_wrongPlace_66 : decode b_Md_wrongPlace 66 = .ok (.if_icmp .ne 13, 3) := by decide +kernel
theorem d_Md_wrongPlace_69 : decode b_Md_wrongPlace 69 = .ok (.aload_n 0, 1) := by decide +kernel
theorem d_Md_wrongPlace_70 : decode b_Md_wrongPlace 70 = .ok (.getfield 19, 3) := by decide +kernel
theorem d_Md_wrongPlace_73 : decode b_Md_wrongPlace 73 = .ok (.iload_n 1, 1) := by decide +kernel
theorem d_Md_wrongPlace_74 : decode b_Md_wrongPlace 74 = .ok (.iaload, 1) := by decide +kernel
theorem d_Md_wrongPlace_75 : decode b_Md_wrongPlace 75 = .ok (.i2l, 1) := by decide +kernel
theorem d_Md_wrongPlace_76 : decode b_Md_wrongPlace 76 = .ok (.goto 10, 3) := by decide +kernel
theorem d_Md_wrongPlace_79 : decode b_Md_wrongPlace 79 = .ok (.aload_n 0, 1) := by decide +kernel
theorem d_Md_wrongPlace_80 : decode b_Md_wrongPlace 80 = .ok (.getfield 32, 3) := by decide +kernel
theorem d_Md_wrongPlace_83 : decode b_Md_wrongPlace 83 = .ok (.iload 4, 2) := by decide +kernel
theorem d_Md_wrongPlace_85 : decode b_Md_wrongPlace 85 = .ok (.laload, 1) := by decide +kernel
theorem d_Md_wrongPlace_86 : decode b_Md_wrongPlace 86 = .ok (.lstore 7, 2) := by decide +kernel
theorem d_Md_wrongPlace_88 : decode b_Md_wrongPlace 88 = .ok (.aload_n 0, 1) := by decide +kernel
theorem d_Md_wrongPlace_89 : decode b_Md_wrongPlace 89 = .ok (.getfield 28, 3) := by decide +kernel
theorem d_Md_wrongPlace_92 : decode b_Md_wrongPlace 92 = .ok (.iload_n 3, 1) := by decide +kernel
theorem d_Md_wrongPlace_93 : decode b_Md_wrongPlace 93 = .ok (.laload, 1) := by decide +kernel
theorem d_Md_wrongPlace_94 : decode b_Md_wrongPlace 94 = .ok (.lload 5, 2) := by decide +kernel
theorem d_Md_wrongPlace_96 : decode b_Md_wrongPlace 96 = .ok (.invokestatic 105, 3) := by decide +kernel
theorem d_Md_wrongPlace_99 : decode b_Md_wrongPlace 99 = .ok (.ifCond .ne 59, 3) := by decide +kernel
theorem d_Md_wrongPlace_102 : decode b_Md_wrongPlace 102 = .ok (.aload_n 0, 1) := by decide +kernel
theorem d_Md_wrongPlace_103 : decode b_Md_wrongPlace 103 = .ok (.getfield 32, 3) := by decide +kernel
theorem d_Md_wrongPlace_106 : decode b_Md_wrongPlace 106 = .ok (.iload_n 3, 1) := by decide +kernel
theorem d_Md_wrongPlace_107 : decode b_Md_wrongPlace 107 = .ok (.laload, 1) := by decide +kernel
theorem d_Md_wrongPlace_108 : decode b_Md_wrongPlace 108 = .ok (.lload 7, 2) := by decide +kernel
theorem d_Md_wrongPlace_110 : decode b_Md_wrongPlace 110 = .ok (.invokestatic 105, 3) := by decide +kernel
theorem d_Md_wrongPlace_113 : decode b_Md_wrongPlace 113 = .ok (.ifCond .ne 45, 3) := by decide +kernel
theorem d_Md_wrongPlace_116 : decode b_Md_wrongPlace 116 = .ok (.aload_n 0, 1) := by decide +kernel
theorem d_Md_wrongPlace_117 : decode b_Md_wrongPlace 117 = .ok (.getfield 28, 3) := by decide +kernel
theorem d_Md_wrongPlace_120 : decode b_Md_wrongPlace 120 = .ok (.iload_n 3, 1) := by decide +kernel
theorem d_Md_wrongPlace_121 : decode b_Md_wrongPlace 121 = .ok (.laload, 1) := by decide +kernel
theorem d_Md_wrongPlace_122 : decode b_Md_wrongPlace 122 = .ok (.lload 5, 2) := by decide +kernel
theorem d_Md_wrongPlace_124 : decode b_Md_wrongPlace 124 = .ok (.ladd, 1) := by decide +kernel
theorem d_Md_wrongPlace_125 : decode b_Md_wrongPlace 125 = .ok (.ldc2_w 109, 3) := by decide +kernel
theorem d_Md_wrongPlace_128 : decode b_Md_wrongPlace 128 = .ok (.ldc2_w 111, 3) := by decide +kernel
theorem d_Md_wrongPlace_131 : decode b_Md_wrongPlace 131 = .ok (.invokestatic 56, 3) := by decide +kernel
theorem d_Md_wrongPlace_134 : decode b_Md_wrongPlace 134 = .ok (.ifCond .eq 24, 3) := by decide +kernel
theorem d_Md_wrongPlace_137 : decode b_Md_wrongPlace 137 = .ok (.aload_n 0, 1) := by decide +kernel
theorem d_Md_wrongPlace_138 : decode b_Md_wrongPlace 138 = .ok (.getfield 32, 3) := by decide +kernel
theorem d_Md_wrongPlace_141 : decode b_Md_wrongPlace 141 = .ok (.iload_n 3, 1) := by decide +kernel
theorem d_Md_wrongPlace_142 : decode b_Md_wrongPlace 142 = .ok (.laload, 1) := by decide +kernel
theorem d_Md_wrongPlace_143 : decode b_Md_wrongPlace 143 = .ok (.lload 7, 2) := by decide +kernel
theorem d_Md_wrongPlace_145 : decode b_Md_wrongPlace 145 = .ok (.ladd, 1) := by decide +kernel
theorem d_Md_wrongPlace_146 : decode b_Md_wrongPlace 146 = .ok (.ldc2_w 109, 3) := by decide +kernel
theorem d_Md_wrongPlace_149 : decode b_Md_wrongPlace 149 = .ok (.ldc2_w 111, 3) := by decide +kernel
theorem d_Md_wrongPlace_152 : decode b_Md_wrongPlace 152 = .ok (.invokestatic 56, 3) := by decide +kernel
theorem d_Md_wrongPlace_155 : decode b_Md_wrongPlace 155 = .ok (.ifCond .ne 7, 3) := by decide +kernel
theorem d_Md_wrongPlace_158 : decode b_Md_wrongPlace 158 = .ok (.iconst 1, 1) := by decide +kernel
theorem d_Md_wrongPlace_159 : decode b_Md_wrongPlace 159 = .ok (.goto 4, 3) := by decide +kernel
theorem d_Md_wrongPlace_162 : decode b_Md_wrongPlace 162 = .ok (.iconst 0, 1) := by decide +kernel
theorem d_Md_wrongPlace_163 : decode b_Md_wrongPlace 163 = .ok (.ireturn, 1) := by decide +kernel
theorem d_Md_wrongPlace_164 : decode b_Md_wrongPlace 164 = .ok (.iload_n 2, 1) := by decide +kernel
theorem d_Md_wrongPlace_165 : decode b_Md_wrongPlace 165 = .ok (.bipush 14, 2) := by decide +kernel
theorem d_Md_wrongPlace_167 : decode b_Md_wrongPlace 167 = .ok (.if_icmp .eq 11, 3) := by decide +kernel
theorem d_Md_wrongPlace_170 : decode b_Md_wrongPlace 170 = .ok (.iload_n 2, 1) := by decide +kernel
theorem d_Md_wrongPlace_171 : decode b_Md_wrongPlace 171 = .ok (.bipush 15, 2) := by decide +kernel
theorem d_Md_wrongPlace_173 : decode b_Md_wrongPlace 173 = .ok (.if_icmp .eq 5, 3) := by decide +kernel
theorem d_Md_wrongPlace_176 : decode b_Md_wrongPlace 176 = .ok (.iconst 0, 1) := by decide +kernel
theorem d_Md_wrongPlace_177 : decode b_Md_wrongPlace 177 = .ok (.ireturn, 1) := by decide +kernel
theorem d_Md_wrongPlace_178 : decode b_Md_wrongPlace 178 = .ok (.iload_n 2, 1) := by decide +kernel
theorem d_Md_wrongPlace_179 : decode b_Md_wrongPlace 179 = .ok (.bipush 14, 2) := by decide +kernel
theorem d_Md_wrongPlace_181 : decode b_Md_wrongPlace 181 = .ok (.if_icmp .ne 8, 3) := by decide +kernel
theorem d_Md_wrongPlace_184 : decode b_Md_wrongPlace 184 = .ok (.iload 4, 2) := by decide +kernel
theorem d_Md_wrongPlace_186 : decode b_Md_wrongPlace 186 = .ok (.goto 4, 3) := by decide +kernel
theorem d_Md_wrongPlace_189 : decode b_Md_wrongPlace 189 = .ok (.iload_n 3, 1) := by decide +kernel
theorem d_Md_wrongPlace_190 : decode b_Md_wrongPlace 190 = .ok (.istore 5, 2) := by decide +kernel
theorem d_Md_wrongPlace_192 : decode b_Md_wrongPlace 192 = .ok (.aload_n 0, 1) := by decide +kernel
theorem d_Md_wrongPlace_193 : decode b_Md_wrongPlace 193 = .ok (.getfield 25, 3) := by decide +kernel
theorem d_Md_wrongPlace_196 : decode b_Md_wrongPlace 196 = .ok (.iload 5, 2) := by decide +kernel
theorem d_Md_wrongPlace_198 : decode b_Md_wrongPlace 198 = .ok (.iaload, 1) := by decide +kernel
theorem d_Md_wrongPlace_199 : decode b_Md_wrongPlace 199 = .ok (.iconst 3, 1) := by decide +kernel
theorem d_Md_wrongPlace_200 : decode b_Md_wrongPlace 200 = .ok (.if_icmp .ne 7, 3) := by decide +kernel
theorem d_Md_wrongPlace_203 : decode b_Md_wrongPlace 203 = .ok (.lconst 1, 1) := by decide +kernel
theorem d_Md_wrongPlace_204 : decode b_Md_wrongPlace 204 = .ok (.goto 6, 3) := by decide +kernel
theorem d_Md_wrongPlace_207 : decode b_Md_wrongPlace 207 = .ok (.ldc2_w 60, 3) := by decide +kernel
theorem d_Md_wrongPlace_210 : decode b_Md_wrongPlace 210 = .ok (.lstore 6, 2) := by decide +kernel
theorem d_Md_wrongPlace_212 : decode b_Md_wrongPlace 212 = .ok (.aload_n 0, 1) := by decide +kernel
theorem d_Md_wrongPlace_213 : decode b_Md_wrongPlace 213 = .ok (.getfield 28, 3) := by decide +kernel
theorem d_Md_wrongPlace_216 : decode b_Md_wrongPlace 216 = .ok (.iload 5, 2) := by decide +kernel
theorem d_Md_wrongPlace_218 : decode b_Md_wrongPlace 218 = .ok (.laload, 1) := by decide +kernel
theorem d_Md_wrongPlace_219 : decode b_Md_wrongPlace 219 = .ok (.aload_n 0, 1) := by decide +kernel
theorem d_Md_wrongPlace_220 : decode b_Md_wrongPlace 220 = .ok (.getfield 19, 3) := by decide +kernel
theorem d_Md_wrongPlace_223 : decode b_Md_wrongPlace 223 = .ok (.iload_n 1, 1) := by decide +kernel
theorem d_Md_wrongPlace_224 : decode b_Md_wrongPlace 224 = .ok (.iaload, 1) := by decide +kernel
theorem d_Md_wrongPlace_225 : decode b_Md_wrongPlace 225 = .ok (.i2l, 1) := by decide +kernel
theorem d_Md_wrongPlace_226 : decode b_Md_wrongPlace 226 = .ok (.ladd, 1) := by decide +kernel
theorem d_Md_wrongPlace_227 : decode b_Md_wrongPlace 227 = .ok (.lconst 0, 1) := by decide +kernel
theorem d_Md_wrongPlace_228 : decode b_Md_wrongPlace 228 = .ok (.lload 6, 2) := by decide +kernel
theorem d_Md_wrongPlace_230 : decode b_Md_wrongPlace 230 = .ok (.invokestatic 56, 3) := by decide +kernel
theorem d_Md_wrongPlace_233 : decode b_Md_wrongPlace 233 = .ok (.ifCond .eq 27, 3) := by decide +kernel
theorem d_Md_wrongPlace_236 : decode b_Md_wrongPlace 236 = .ok (.aload_n 0, 1) := by decide +kernel
theorem d_Md_wrongPlace_237 : decode b_Md_wrongPlace 237 = .ok (.getfield 32, 3) := by decide +kernel
theorem d_Md_wrongPlace_240 : decode b_Md_wrongPlace 240 = .ok (.iload 5, 2) := by decide +kernel
theorem d_Md_wrongPlace_242 : decode b_Md_wrongPlace 242 = .ok (.laload, 1) := by decide +kernel
theorem d_Md_wrongPlace_243 : decode b_Md_wrongPlace 243 = .ok (.aload_n 0, 1) := by decide +kernel
theorem d_Md_wrongPlace_244 : decode b_Md_wrongPlace 244 = .ok (.getfield 19, 3) := by decide +kernel
theorem d_Md_wrongPlace_247 : decode b_Md_wrongPlace 247 = .ok (.iload_n 1, 1) := by decide +kernel
theorem d_Md_wrongPlace_248 : decode b_Md_wrongPlace 248 = .ok (.iaload, 1) := by decide +kernel
theorem d_Md_wrongPlace_249 : decode b_Md_wrongPlace 249 = .ok (.i2l, 1) := by decide +kernel
theorem d_Md_wrongPlace_250 : decode b_Md_wrongPlace 250 = .ok (.ladd, 1) := by decide +kernel
theorem d_Md_wrongPlace_251 : decode b_Md_wrongPlace 251 = .ok (.lconst 0, 1) := by decide +kernel
theorem d_Md_wrongPlace_252 : decode b_Md_wrongPlace 252 = .ok (.lload 6, 2) := by decide +kernel
theorem d_Md_wrongPlace_254 : decode b_Md_wrongPlace 254 = .ok (.invokestatic 56, 3) := by decide +kernel
theorem d_Md_wrongPlace_257 : decode b_Md_wrongPlace 257 = .ok (.ifCond .ne 7, 3) := by decide +kernel
theorem d_Md_wrongPlace_260 : decode b_Md_wrongPlace 260 = .ok (.iconst 1, 1) := by decide +kernel
theorem d_Md_wrongPlace_261 : decode b_Md_wrongPlace 261 = .ok (.goto 4, 3) := by decide +kernel
theorem d_Md_wrongPlace_264 : decode b_Md_wrongPlace 264 = .ok (.iconst 0, 1) := by decide +kernel
theorem d_Md_wrongPlace_265 : decode b_Md_wrongPlace 265 = .ok (.ireturn, 1) := by decide +kernel
theorem d_Md_wrongCells_0 : decode b_Md_wrongCells 0 = .ok (.aload_n 0, 1) := by decide +kernel
theorem d_Md_wrongCells_1 : decode b_Md_wrongCells 1 = .ok (.getfield 16, 3) := by decide +kernel
theorem d_Md_wrongCells_4 : decode b_Md_wrongCells 4 = .ok (.iload_n 1, 1) := by decide +kernel
theorem d_Md_wrongCells_5 : decode b_Md_wrongCells 5 = .ok (.iaload, 1) := by decide +kernel
theorem d_Md_wrongCells_6 : decode b_Md_wrongCells 6 = .ok (.istore_n 2, 1) := by decide +kernel
theorem d_Md_wrongCells_7 : decode b_Md_wrongCells 7 = .ok (.aload_n 0, 1) := by decide +kernel
theorem d_Md_wrongCells_8 : decode b_Md_wrongCells 8 = .ok (.getfield 7, 3) := by decide +kernel
theorem d_Md_wrongCells_11 : decode b_Md_wrongCells 11 = .ok (.iload_n 1, 1) := by decide +kernel
theorem d_Md_wrongCells_12 : decode b_Md_wrongCells 12 = .ok (.iaload, 1) := by decide +kernel
theorem d_Md_wrongCells_13 : decode b_Md_wrongCells 13 = .ok (.bipush 14, 2) := by decide +kernel
theorem d_Md_wrongCells_15 : decode b_Md_wrongCells 15 = .ok (.if_icmp .ne 13, 3) := by decide +kernel
theorem d_Md_wrongCells_18 : decode b_Md_wrongCells 18 = .ok (.aload_n 0, 1) := by decide +kernel
theorem d_Md_wrongCells_19 : decode b_Md_wrongCells 19 = .ok (.getfield 25, 3) := by decide +kernel
theorem d_Md_wrongCells_22 : decode b_Md_wrongCells 22 = .ok (.iload_n 2, 1) := by decide +kernel
theorem d_Md_wrongCells_23 : decode b_Md_wrongCells 23 = .ok (.iaload, 1) := by decide +kernel
theorem d_Md_wrongCells_24 : decode b_Md_wrongCells 24 = .ok (.iconst 3, 1) := by decide +kernel
theorem d_Md_wrongCells_25 : decode b_Md_wrongCells 25 = .ok (.if_icmp .ne 5, 3) := by decide +kernel
theorem d_Md_wrongCells_28 : decode b_Md_wrongCells 28 = .ok (.iconst 0, 1) := by decide +kernel
theorem d_Md_wrongCells_29 : decode b_Md_wrongCells 29 = .ok (.ireturn, 1) := by decide +kernel
theorem d_Md_wrongCells_30 : decode b_Md_wrongCells 30 = .ok (.aload_n 0, 1) := by decide +kernel
theorem d_Md_wrongCells_31 : decode b_Md_wrongCells 31 = .ok (.getfield 28, 3) := by decide +kernel
theorem d_Md_wrongCells_34 : decode b_Md_wrongCells 34 = .ok (.iload_n 2, 1) := by decide +kernel
theorem d_Md_wrongCells_35 : decode b_Md_wrongCells 35 = .ok (.laload, 1) := by decide +kernel
theorem d_Md_wrongCells_36 : decode b_Md_wrongCells 36 = .ok (.aload_n 0, 1) := by decide +kernel
theorem d_Md_wrongCells_37 : decode b_Md_wrongCells 37 = .ok (.getfield 19, 3) := by decide +kernel
theorem d_Md_wrongCells_40 : decode b_Md_wrongCells 40 = .ok (.iload_n 1, 1) := by decide +kernel
theorem d_Md_wrongCells_41 : decode b_Md_wrongCells 41 = .ok (.iaload, 1) := by decide +kernel
theorem d_Md_wrongCells_42 : decode b_Md_wrongCells 42 = .ok (.i2l, 1) := by decide +kernel
theorem d_Md_wrongCells_43 : decode b_Md_wrongCells 43 = .ok (.ladd, 1) := by decide +kernel
theorem d_Md_wrongCells_44 : decode b_Md_wrongCells 44 = .ok (.lstore_n 3, 1) := by decide +kernel
theorem d_Md_wrongCells_45 : decode b_Md_wrongCells 45 = .ok (.lload_n 3, 1) := by decide +kernel
theorem d_Md_wrongCells_46 : decode b_Md_wrongCells 46 = .ok (.aload_n 0, 1) := by decide +kernel
theorem d_Md_wrongCells_47 : decode b_Md_wrongCells 47 = .ok (.getfield 32, 3) := by decide +kernel
theorem d_Md_wrongCells_50 : decode b_Md_wrongCells 50 = .ok (.iload_n 2, 1) := by decide +kernel
theorem d_Md_wrongCells_51 : decode b_Md_wrongCells 51 = .ok (.laload, 1) := by decide +kernel
theorem d_Md_wrongCells_52 : decode b_Md_wrongCells 52 = .ok (.aload_n 0, 1) := by decide +kernel
theorem d_Md_wrongCells_53 : decode b_Md_wrongCells 53 = .ok (.getfield 19, 3) := by decide +kernel
theorem d_Md_wrongCells_56 : decode b_Md_wrongCells 56 = .ok (.iload_n 1, 1) := by decide +kernel
theorem d_Md_wrongCells_57 : decode b_Md_wrongCells 57 = .ok (.iaload, 1) := by decide +kernel
theorem d_Md_wrongCells_58 : decode b_Md_wrongCells 58 = .ok (.i2l, 1) := by decide +kernel
theorem d_Md_wrongCells_59 : decode b_Md_wrongCells 59 = .ok (.ladd, 1) := by decide +kernel
theorem d_Md_wrongCells_60 : decode b_Md_wrongCells 60 = .ok (.lcmp, 1) := by decide +kernel
theorem d_Md_wrongCells_61 : decode b_Md_wrongCells 61 = .ok (.ifCond .gt 51, 3) := by decide +kernel
theorem d_Md_wrongCells_64 : decode b_Md_wrongCells 64 = .ok (.aload_n 0, 1) := by decide +kernel
theorem d_Md_wrongCells_65 : decode b_Md_wrongCells 65 = .ok (.getfield 25, 3) := by decide +kernel
theorem d_Md_wrongCells_68 : decode b_Md_wrongCells 68 = .ok (.bipush 6, 2) := by decide +kernel
theorem d_Md_wrongCells_70 : decode b_Md_wrongCells 70 = .ok (.lload_n 3, 1) := by decide +kernel
theorem d_Md_wrongCells_71 : decode b_Md_wrongCells 71 = .ok (.l2i, 1) := by decide +kernel
theorem d_Md_wrongCells_72 : decode b_Md_wrongCells 72 = .ok (.iadd, 1) := by decide +kernel
theorem d_Md_wrongCells_73 : decode b_Md_wrongCells 73 = .ok (.iaload, 1) := by decide +kernel
theorem d_Md_wrongCells_74 : decode b_Md_wrongCells 74 = .ok (.istore 5, 2) := by decide +kernel
theorem d_Md_wrongCells_76 : decode b_Md_wrongCells 76 = .ok (.iload 5, 2) := by decide +kernel
theorem d_Md_wrongCells_78 : decode b_Md_wrongCells 78 = .ok (.ifCond .eq 25, 3) := by decide +kernel
theorem d_Md_wrongCells_81 : decode b_Md_wrongCells 81 = .ok (.aload_n 0, 1) := by decide +kernel
theorem d_Md_wrongCells_82 : decode b_Md_wrongCells 82 = .ok (.getfield 28, 3) := by decide +kernel
theorem d_Md_wrongCells_85 : decode b_Md_wrongCells 85 = .ok (.iload_n 2, 1) := by decide +kernel
theorem d_Md_wrongCells_86 : decode b_Md_wrongCells 86 = .ok (.laload, 1) := by decide +kernel
theorem d_Md_wrongCells_87 : decode b_Md_wrongCells 87 = .ok (.aload_n 0, 1) := by decide +kernel
theorem d_Md_wrongCells_88 : decode b_Md_wrongCells 88 = .ok (.getfield 32, 3) := by decide +kernel
theorem d_Md_wrongCells_91 : decode b_Md_wrongCells 91 = .ok (.iload_n 2, 1) := by decide +kernel
theorem d_Md_wrongCells_92 : decode b_Md_wrongCells 92 = .ok (.laload, 1) := by decide +kernel
theorem d_Md_wrongCells_93 : decode b_Md_wrongCells 93 = .ok (.lcmp, 1) := by decide +kernel
theorem d_Md_wrongCells_94 : decode b_Md_wrongCells 94 = .ok (.ifCond .eq 11, 3) := by decide +kernel
theorem d_Md_wrongCells_97 : decode b_Md_wrongCells 97 = .ok (.iload 5, 2) := by decide +kernel
theorem d_Md_wrongCells_99 : decode b_Md_wrongCells 99 = .ok (.iconst 1, 1) := by decide +kernel
theorem d_Md_wrongCells_100 : decode b_Md_wrongCells 100 = .ok (.if_icmp .eq 5, 3) := by decide +kernel
theorem d_Md_wrongCells_103 : decode b_Md_wrongCells 103 = .ok (.iconst 1, 1) := by decide +kernel
theorem d_Md_wrongCells_104 : decode b_Md_wrongCells 104 = .ok (.ireturn, 1) := by decide +kernel
theorem d_Md_wrongCells_105 : decode b_Md_wrongCells 105 = .ok (.lload_n 3, 1) := by decide +kernel
theorem d_Md_wrongCells_106 : decode b_Md_wrongCells 106 = .ok (.lconst 1, 1) := by decide +kernel
theorem d_Md_wrongCells_107 : decode b_Md_wrongCells 107 = .ok (.ladd, 1) := by decide +kernel
theorem d_Md_wrongCells_108 : decode b_Md_wrongCells 108 = .ok (.lstore_n 3, 1) := by decide +kernel
theorem d_Md_wrongCells_109 : decode b_Md_wrongCells 109 = .ok (.goto (-64), 3) := by decide +kernel
theorem d_Md_wrongCells_112 : decode b_Md_wrongCells 112 = .ok (.iconst 0, 1) := by decide +kernel
theorem d_Md_wrongCells_113 : decode b_Md_wrongCells 113 = .ok (.ireturn, 1) := by decide +kernel
theorem d_Md_wrongStore_0 : decode b_Md_wrongStore 0 = .ok (.aload_n 0, 1) := by decide +kernel
theorem d_Md_wrongStore_1 : decode b_Md_wrongStore 1 = .ok (.getfield 13, 3) := by decide +kernel
theorem d_Md_wrongStore_4 : decode b_Md_wrongStore 4 = .ok (.iload_n 1, 1) := by decide +kernel
theorem d_Md_wrongStore_5 : decode b_Md_wrongStore 5 = .ok (.iaload, 1) := by decide +kernel
theorem d_Md_wrongStore_6 : decode b_Md_wrongStore 6 = .ok (.istore_n 2, 1) := by decide +kernel
theorem d_Md_wrongStore_7 : decode b_Md_wrongStore 7 = .ok (.aload_n 0, 1) := by decide +kernel
theorem d_Md_wrongStore_8 : decode b_Md_wrongStore 8 = .ok (.getfield 7, 3) := by decide +kernel
theorem d_Md_wrongStore_11 : decode b_Md_wrongStore 11 = .ok (.iload_n 1, 1) := by decide +kernel
theorem d_Md_wrongStore_12 : decode b_Md_wrongStore 12 = .ok (.iaload, 1) := by decide +kernel
theorem d_Md_wrongStore_13 : decode b_Md_wrongStore 13 = .ok (.bipush 15, 2) := by decide +kernel
theorem d_Md_wrongStore_15 : decode b_Md_wrongStore 15 = .ok (.if_icmp .ne 29, 3) := by decide +kernel
theorem d_Md_wrongStore_18 : decode b_Md_wrongStore 18 = .ok (.aload_n 0, 1) := by decide +kernel
theorem d_Md_wrongStore_19 : decode b_Md_wrongStore 19 = .ok (.getfield 25, 3) := by decide +kernel
theorem d_Md_wrongStore_22 : decode b_Md_wrongStore 22 = .ok (.iload_n 2, 1) := by decide +kernel
theorem d_Md_wrongStore_23 : decode b_Md_wrongStore 23 = .ok (.iaload, 1) := by decide +kernel
theorem d_Md_wrongStore_24 : decode b_Md_wrongStore 24 = .ok (.iconst 3, 1) := by decide +kernel
theorem d_Md_wrongStore_25 : decode b_Md_wrongStore 25 = .ok (.if_icmp .eq 19, 3) := by decide +kernel
theorem d_Md_wrongStore_28 : decode b_Md_wrongStore 28 = .ok (.aload_n 0, 1) := by decide +kernel
theorem d_Md_wrongStore_29 : decode b_Md_wrongStore 29 = .ok (.getfield 28, 3) := by decide +kernel
theorem d_Md_wrongStore_32 : decode b_Md_wrongStore 32 = .ok (.iload_n 2, 1) := by decide +kernel
theorem d_Md_wrongStore_33 : decode b_Md_wrongStore 33 = .ok (.laload, 1) := by decide +kernel
theorem d_Md_wrongStore_34 : decode b_Md_wrongStore 34 = .ok (.aload_n 0, 1) := by decide +kernel
theorem d_Md_wrongStore_35 : decode b_Md_wrongStore 35 = .ok (.getfield 32, 3) := by decide +kernel
theorem d_Md_wrongStore_38 : decode b_Md_wrongStore 38 = .ok (.iload_n 2, 1) := by decide +kernel
theorem d_Md_wrongStore_39 : decode b_Md_wrongStore 39 = .ok (.laload, 1) := by decide +kernel
theorem d_Md_wrongStore_40 : decode b_Md_wrongStore 40 = .ok (.lcmp, 1) := by decide +kernel
theorem d_Md_wrongStore_41 : decode b_Md_wrongStore 41 = .ok (.ifCond .ne 5, 3) := by decide +kernel
theorem d_Md_wrongStore_44 : decode b_Md_wrongStore 44 = .ok (.iconst 0, 1) := by decide +kernel
theorem d_Md_wrongStore_45 : decode b_Md_wrongStore 45 = .ok (.ireturn, 1) := by decide +kernel
theorem d_Md_wrongStore_46 : decode b_Md_wrongStore 46 = .ok (.aload_n 0, 1) := by decide +kernel
theorem d_Md_wrongStore_47 : decode b_Md_wrongStore 47 = .ok (.getfield 28, 3) := by decide +kernel
theorem d_Md_wrongStore_50 : decode b_Md_wrongStore 50 = .ok (.iload_n 2, 1) := by decide +kernel
theorem d_Md_wrongStore_51 : decode b_Md_wrongStore 51 = .ok (.laload, 1) := by decide +kernel
theorem d_Md_wrongStore_52 : decode b_Md_wrongStore 52 = .ok (.aload_n 0, 1) := by decide +kernel
theorem d_Md_wrongStore_53 : decode b_Md_wrongStore 53 = .ok (.getfield 19, 3) := by decide +kernel
theorem d_Md_wrongStore_56 : decode b_Md_wrongStore 56 = .ok (.iload_n 1, 1) := by decide +kernel
theorem d_Md_wrongStore_57 : decode b_Md_wrongStore 57 = .ok (.iaload, 1) := by decide +kernel
theorem d_Md_wrongStore_58 : decode b_Md_wrongStore 58 = .ok (.i2l, 1) := by decide +kernel
theorem d_Md_wrongStore_59 : decode b_Md_wrongStore 59 = .ok (.ladd, 1) := by decide +kernel
theorem d_Md_wrongStore_60 : decode b_Md_wrongStore 60 = .ok (.lstore_n 3, 1) := by decide +kernel
theorem d_Md_wrongStore_61 : decode b_Md_wrongStore 61 = .ok (.lload_n 3, 1) := by decide +kernel
theorem d_Md_wrongStore_62 : decode b_Md_wrongStore 62 = .ok (.aload_n 0, 1) := by decide +kernel
theorem d_Md_wrongStore_63 : decode b_Md_wrongStore 63 = .ok (.getfield 32, 3) := by decide +kernel
theorem d_Md_wrongStore_66 : decode b_Md_wrongStore 66 = .ok (.iload_n 2, 1) := by decide +kernel
theorem d_Md_wrongStore_67 : decode b_Md_wrongStore 67 = .ok (.laload, 1) := by decide +kernel
theorem d_Md_wrongStore_68 : decode b_Md_wrongStore 68 = .ok (.aload_n 0, 1) := by decide +kernel
theorem d_Md_wrongStore_69 : decode b_Md_wrongStore 69 = .ok (.getfield 19, 3) := by decide +kernel
theorem d_Md_wrongStore_72 : decode b_Md_wrongStore 72 = .ok (.iload_n 1, 1) := by decide +kernel
theorem d_Md_wrongStore_73 : decode b_Md_wrongStore 73 = .ok (.iaload, 1) := by decide +kernel
theorem d_Md_wrongStore_74 : decode b_Md_wrongStore 74 = .ok (.i2l, 1) := by decide +kernel
theorem d_Md_wrongStore_75 : decode b_Md_wrongStore 75 = .ok (.ladd, 1) := by decide +kernel
theorem d_Md_wrongStore_76 : decode b_Md_wrongStore 76 = .ok (.lcmp, 1) := by decide +kernel
theorem d_Md_wrongStore_77 : decode b_Md_wrongStore 77 = .ok (.ifCond .gt 37, 3) := by decide +kernel
theorem d_Md_wrongStore_80 : decode b_Md_wrongStore 80 = .ok (.lload_n 3, 1) := by decide +kernel
theorem d_Md_wrongStore_81 : decode b_Md_wrongStore 81 = .ok (.lconst 0, 1) := by decide +kernel
theorem d_Md_wrongStore_82 : decode b_Md_wrongStore 82 = .ok (.ldc2_w 60, 3) := by decide +kernel
theorem d_Md_wrongStore_85 : decode b_Md_wrongStore 85 = .ok (.invokestatic 56, 3) := by decide +kernel
theorem d_Md_wrongStore_88 : decode b_Md_wrongStore 88 = .ok (.ifCond .eq 19, 3) := by decide +kernel
theorem d_Md_wrongStore_91 : decode b_Md_wrongStore 91 = .ok (.aload_n 0, 1) := by decide +kernel
theorem d_Md_wrongStore_92 : decode b_Md_wrongStore 92 = .ok (.getfield 25, 3) := by decide +kernel
theorem d_Md_wrongStore_95 : decode b_Md_wrongStore 95 = .ok (.bipush 6, 2) := by decide +kernel
theorem d_Md_wrongStore_97 : decode b_Md_wrongStore 97 = .ok (.lload_n 3, 1) := by decide +kernel
theorem d_Md_wrongStore_98 : decode b_Md_wrongStore 98 = .ok (.l2i, 1) := by decide +kernel
theorem d_Md_wrongStore_99 : decode b_Md_wrongStore 99 = .ok (.iadd, 1) := by decide +kernel
theorem d_Md_wrongStore_100 : decode b_Md_wrongStore 100 = .ok (.iaload, 1) := by decide +kernel
theorem d_Md_wrongStore_101 : decode b_Md_wrongStore 101 = .ok (.iconst 1, 1) := by decide +kernel
theorem d_Md_wrongStore_102 : decode b_Md_wrongStore 102 = .ok (.if_icmp .le 5, 3) := by decide +kernel
theorem d_Md_wrongStore_105 : decode b_Md_wrongStore 105 = .ok (.iconst 1, 1) := by decide +kernel
theorem d_Md_wrongStore_106 : decode b_Md_wrongStore 106 = .ok (.ireturn, 1) := by decide +kernel
theorem d_Md_wrongStore_107 : decode b_Md_wrongStore 107 = .ok (.lload_n 3, 1) := by decide +kernel
theorem d_Md_wrongStore_108 : decode b_Md_wrongStore 108 = .ok (.lconst 1, 1) := by decide +kernel
theorem d_Md_wrongStore_109 : decode b_Md_wrongStore 109 = .ok (.ladd, 1) := by decide +kernel
theorem d_Md_wrongStore_110 : decode b_Md_wrongStore 110 = .ok (.lstore_n 3, 1) := by decide +kernel
theorem d_Md_wrongStore_111 : decode b_Md_wrongStore 111 = .ok (.goto (-50), 3) := by decide +kernel
theorem d_Md_wrongStore_114 : decode b_Md_wrongStore 114 = .ok (.iconst 0, 1) := by decide +kernel
theorem d_Md_wrongStore_115 : decode b_Md_wrongStore 115 = .ok (.ireturn, 1) := by decide +kernel
theorem d_Md_reasonAt_0 : decode b_Md_reasonAt 0 = .ok (.iload_n 1, 1) := by decide +kernel
theorem d_Md_reasonAt_1 : decode b_Md_reasonAt 1 = .ok (.aload_n 0, 1) := by decide +kernel
theorem d_Md_reasonAt_2 : decode b_Md_reasonAt 2 = .ok (.getfield 76, 3) := by decide +kernel
theorem d_Md_reasonAt_5 : decode b_Md_reasonAt 5 = .ok (.if_icmp .ge 45, 3) := by decide +kernel
theorem d_Md_reasonAt_8 : decode b_Md_reasonAt 8 = .ok (.aload_n 0, 1) := by decide +kernel
theorem d_Md_reasonAt_9 : decode b_Md_reasonAt 9 = .ok (.getfield 7, 3) := by decide +kernel
theorem d_Md_reasonAt_12 : decode b_Md_reasonAt 12 = .ok (.iload_n 1, 1) := by decide +kernel
theorem d_Md_reasonAt_13 : decode b_Md_reasonAt 13 = .ok (.iaload, 1) := by decide +kernel
theorem d_Md_reasonAt_14 : decode b_Md_reasonAt 14 = .ok (.i2l, 1) := by decide +kernel
theorem d_Md_reasonAt_15 : decode b_Md_reasonAt 15 = .ok (.ldc2_w 113, 3) := by decide +kernel
theorem d_Md_reasonAt_18 : decode b_Md_reasonAt 18 = .ok (.ldc2_w 115, 3) := by decide +kernel
theorem d_Md_reasonAt_21 : decode b_Md_reasonAt 21 = .ok (.invokestatic 56, 3) := by decide +kernel
theorem d_Md_reasonAt_24 : decode b_Md_reasonAt 24 = .ok (.ifCond .eq 28, 3) := by decide +kernel
theorem d_Md_reasonAt_27 : decode b_Md_reasonAt 27 = .ok (.aload_n 0, 1) := by decide +kernel
theorem d_Md_reasonAt_28 : decode b_Md_reasonAt 28 = .ok (.getfield 22, 3) := by decide +kernel
theorem d_Md_reasonAt_31 : decode b_Md_reasonAt 31 = .ok (.iload_n 1, 1) := by decide +kernel
theorem d_Md_reasonAt_32 : decode b_Md_reasonAt 32 = .ok (.iaload, 1) := by decide +kernel
theorem d_Md_reasonAt_33 : decode b_Md_reasonAt 33 = .ok (.aload_n 0, 1) := by decide +kernel
theorem d_Md_reasonAt_34 : decode b_Md_reasonAt 34 = .ok (.getfield 76, 3) := by decide +kernel
theorem d_Md_reasonAt_37 : decode b_Md_reasonAt 37 = .ok (.if_icmp .ge 13, 3) := by decide +kernel
theorem d_Md_reasonAt_40 : decode b_Md_reasonAt 40 = .ok (.aload_n 0, 1) := by decide +kernel
theorem d_Md_reasonAt_41 : decode b_Md_reasonAt 41 = .ok (.getfield 22, 3) := by decide +kernel
theorem d_Md_reasonAt_44 : decode b_Md_reasonAt 44 = .ok (.iload_n 1, 1) := by decide +kernel
theorem d_Md_reasonAt_45 : decode b_Md_reasonAt 45 = .ok (.iaload, 1) := by decide +kernel
theorem d_Md_reasonAt_46 : decode b_Md_reasonAt 46 = .ok (.iload_n 1, 1) := by decide +kernel
theorem d_Md_reasonAt_47 : decode b_Md_reasonAt 47 = .ok (.if_icmp .gt 5, 3) := by decide +kernel
theorem d_Md_reasonAt_50 : decode b_Md_reasonAt 50 = .ok (.iconst 1, 1) := by decide +kernel
theorem d_Md_reasonAt_51 : decode b_Md_reasonAt 51 = .ok (.ireturn, 1) := by decide +kernel
theorem d_Md_reasonAt_52 : decode b_Md_reasonAt 52 = .ok (.aload_n 0, 1) := by decide +kernel
theorem d_Md_reasonAt_53 : decode b_Md_reasonAt 53 = .ok (.iload_n 1, 1) := by decide +kernel
theorem d_Md_reasonAt_54 : decode b_Md_reasonAt 54 = .ok (.invokevirtual 117, 3) := by decide +kernel
theorem d_Md_reasonAt_57 : decode b_Md_reasonAt 57 = .ok (.ifCond .eq 5, 3) := by decide +kernel
theorem d_Md_reasonAt_60 : decode b_Md_reasonAt 60 = .ok (.iconst 2, 1) := by decide +kernel
theorem d_Md_reasonAt_61 : decode b_Md_reasonAt 61 = .ok (.ireturn, 1) := by decide +kernel
theorem d_Md_reasonAt_62 : decode b_Md_reasonAt 62 = .ok (.aload_n 0, 1) := by decide +kernel
theorem d_Md_reasonAt_63 : decode b_Md_reasonAt 63 = .ok (.iload_n 1, 1) := by decide +kernel
theorem d_Md_reasonAt_64 : decode b_Md_reasonAt 64 = .ok (.invokevirtual 120, 3) := by decide +kernel
theorem d_Md_reasonAt_67 : decode b_Md_reasonAt 67 = .ok (.ifCond .eq 5, 3) := by decide +kernel
theorem d_Md_reasonAt_70 : decode b_Md_reasonAt 70 = .ok (.iconst 3, 1) := by decide +kernel
theorem d_Md_reasonAt_71 : decode b_Md_reasonAt 71 = .ok (.ireturn, 1) := by decide +kernel
theorem d_Md_reasonAt_72 : decode b_Md_reasonAt 72 = .ok (.aload_n 0, 1) := by decide +kernel
theorem d_Md_reasonAt_73 : decode b_Md_reasonAt 73 = .ok (.iload_n 1, 1) := by decide +kernel
theorem d_Md_reasonAt_74 : decode b_Md_reasonAt 74 = .ok (.invokevirtual 123, 3) := by decide +kernel
theorem d_Md_reasonAt_77 : decode b_Md_reasonAt 77 = .ok (.ifCond .eq 5, 3) := by decide +kernel
theorem d_Md_reasonAt_80 : decode b_Md_reasonAt 80 = .ok (.iconst 4, 1) := by decide +kernel
theorem d_Md_reasonAt_81 : decode b_Md_reasonAt 81 = .ok (.ireturn, 1) := by decide +kernel
theorem d_Md_reasonAt_82 : decode b_Md_reasonAt 82 = .ok (.aload_n 0, 1) := by decide +kernel
theorem d_Md_reasonAt_83 : decode b_Md_reasonAt 83 = .ok (.iload_n 1, 1) := by decide +kernel
theorem d_Md_reasonAt_84 : decode b_Md_reasonAt 84 = .ok (.invokevirtual 126, 3) := by decide +kernel
theorem d_Md_reasonAt_87 : decode b_Md_reasonAt 87 = .ok (.ifCond .eq 5, 3) := by decide +kernel
theorem d_Md_reasonAt_90 : decode b_Md_reasonAt 90 = .ok (.iconst 4, 1) := by decide +kernel
theorem d_Md_reasonAt_91 : decode b_Md_reasonAt 91 = .ok (.ireturn, 1) := by decide +kernel
theorem d_Md_reasonAt_92 : decode b_Md_reasonAt 92 = .ok (.aload_n 0, 1) := by decide +kernel
theorem d_Md_reasonAt_93 : decode b_Md_reasonAt 93 = .ok (.iload_n 1, 1) := by decide +kernel
theorem d_Md_reasonAt_94 : decode b_Md_reasonAt 94 = .ok (.invokevirtual 129, 3) := by decide +kernel
theorem d_Md_reasonAt_97 : decode b_Md_reasonAt 97 = .ok (.ifCond .eq 5, 3) := by decide +kernel
theorem d_Md_reasonAt_100 : decode b_Md_reasonAt 100 = .ok (.iconst 5, 1) := by decide +kernel
theorem d_Md_reasonAt_101 : decode b_Md_reasonAt 101 = .ok (.ireturn, 1) := by decide +kernel
theorem d_Md_reasonAt_102 : decode b_Md_reasonAt 102 = .ok (.aload_n 0, 1) := by decide +kernel
theorem d_Md_reasonAt_103 : decode b_Md_reasonAt 103 = .ok (.iload_n 1, 1) := by decide +kernel
theorem d_Md_reasonAt_104 : decode b_Md_reasonAt 104 = .ok (.invokevirtual 132, 3) := by decide +kernel
theorem d_Md_reasonAt_107 : decode b_Md_reasonAt 107 = .ok (.ifCond .eq 6, 3) := by decide +kernel
theorem d_Md_reasonAt_110 : decode b_Md_reasonAt 110 = .ok (.bipush 6, 2) := by decide +kernel
theorem d_Md_reasonAt_112 : decode b_Md_reasonAt 112 = .ok (.ireturn, 1) := by decide +kernel
theorem d_Md_reasonAt_113 : decode b_Md_reasonAt 113 = .ok (.aload_n 0, 1) := by decide +kernel
theorem d_Md_reasonAt_114 : decode b_Md_reasonAt 114 = .ok (.getfield 7, 3) := by decide +kernel
theorem d_Md_reasonAt_117 : decode b_Md_reasonAt 117 = .ok (.iload_n 1, 1) := by decide +kernel
theorem d_Md_reasonAt_118 : decode b_Md_reasonAt 118 = .ok (.iaload, 1) := by decide +kernel
theorem d_Md_reasonAt_119 : decode b_Md_reasonAt 119 = .ok (.bipush 16, 2) := by decide +kernel
theorem d_Md_reasonAt_121 : decode b_Md_reasonAt 121 = .ok (.if_icmp .ne 42, 3) := by decide +kernel
theorem d_Md_reasonAt_124 : decode b_Md_reasonAt 124 = .ok (.aload_n 0, 1) := by decide +kernel
theorem d_Md_reasonAt_125 : decode b_Md_reasonAt 125 = .ok (.getfield 19, 3) := by decide +kernel
theorem d_Md_reasonAt_128 : decode b_Md_reasonAt 128 = .ok (.iload_n 1, 1) := by decide +kernel
theorem d_Md_reasonAt_129 : decode b_Md_reasonAt 129 = .ok (.iaload, 1) := by decide +kernel
theorem d_Md_reasonAt_130 : decode b_Md_reasonAt 130 = .ok (.iconst 1, 1) := by decide +kernel
theorem d_Md_reasonAt_131 : decode b_Md_reasonAt 131 = .ok (.if_icmp .ne 32, 3) := by decide +kernel
theorem d_Md_reasonAt_134 : decode b_Md_reasonAt 134 = .ok (.aload_n 0, 1) := by decide +kernel
theorem d_Md_reasonAt_135 : decode b_Md_reasonAt 135 = .ok (.getfield 28, 3) := by decide +kernel
theorem d_Md_reasonAt_138 : decode b_Md_reasonAt 138 = .ok (.iconst 1, 1) := by decide +kernel
theorem d_Md_reasonAt_139 : decode b_Md_reasonAt 139 = .ok (.laload, 1) := by decide +kernel
theorem d_Md_reasonAt_140 : decode b_Md_reasonAt 140 = .ok (.lconst 0, 1) := by decide +kernel
theorem d_Md_reasonAt_141 : decode b_Md_reasonAt 141 = .ok (.lcmp, 1) := by decide +kernel
theorem d_Md_reasonAt_142 : decode b_Md_reasonAt 142 = .ok (.ifCond .lt 16, 3) := by decide +kernel
theorem d_Md_reasonAt_145 : decode b_Md_reasonAt 145 = .ok (.aload_n 0, 1) := by decide +kernel
theorem d_Md_reasonAt_146 : decode b_Md_reasonAt 146 = .ok (.getfield 32, 3) := by decide +kernel
theorem d_Md_reasonAt_149 : decode b_Md_reasonAt 149 = .ok (.iconst 1, 1) := by decide +kernel
theorem d_Md_reasonAt_150 : decode b_Md_reasonAt 150 = .ok (.laload, 1) := by decide +kernel
theorem d_Md_reasonAt_151 : decode b_Md_reasonAt 151 = .ok (.ldc2_w 135, 3) := by decide +kernel
theorem d_Md_reasonAt_154 : decode b_Md_reasonAt 154 = .ok (.lcmp, 1) := by decide +kernel
theorem d_Md_reasonAt_155 : decode b_Md_reasonAt 155 = .ok (.ifCond .le 8, 3) := by decide +kernel
theorem d_Md_reasonAt_158 : decode b_Md_reasonAt 158 = .ok (.bipush 7, 2) := by decide +kernel
theorem d_Md_reasonAt_160 : decode b_Md_reasonAt 160 = .ok (.goto 4, 3) := by decide +kernel
theorem d_Md_reasonAt_163 : decode b_Md_reasonAt 163 = .ok (.iconst 0, 1) := by decide +kernel
theorem d_Md_reasonAt_164 : decode b_Md_reasonAt 164 = .ok (.ireturn, 1) := by decide +kernel
theorem d_Md_push_0 : decode b_Md_push 0 = .ok (.iconst 0, 1) := by decide +kernel
theorem d_Md_push_1 : decode b_Md_push 1 = .ok (.istore_n 2, 1) := by decide +kernel
theorem d_Md_push_2 : decode b_Md_push 2 = .ok (.iload_n 2, 1) := by decide +kernel
theorem d_Md_push_3 : decode b_Md_push 3 = .ok (.bipush 12, 2) := by decide +kernel
theorem d_Md_push_5 : decode b_Md_push 5 = .ok (.if_icmp .ge 69, 3) := by decide +kernel
theorem d_Md_push_8 : decode b_Md_push 8 = .ok (.aload_n 0, 1) := by decide +kernel
theorem d_Md_push_9 : decode b_Md_push 9 = .ok (.getfield 35, 3) := by decide +kernel
theorem d_Md_push_12 : decode b_Md_push 12 = .ok (.aload_n 0, 1) := by decide +kernel
theorem d_Md_push_13 : decode b_Md_push 13 = .ok (.getfield 137, 3) := by decide +kernel
theorem d_Md_push_16 : decode b_Md_push 16 = .ok (.bipush 12, 2) := by decide +kernel
theorem d_Md_push_18 : decode b_Md_push 18 = .ok (.imul, 1) := by decide +kernel
theorem d_Md_push_19 : decode b_Md_push 19 = .ok (.iload_n 2, 1) := by decide +kernel
theorem d_Md_push_20 : decode b_Md_push 20 = .ok (.iadd, 1) := by decide +kernel
theorem d_Md_push_21 : decode b_Md_push 21 = .ok (.aload_n 0, 1) := by decide +kernel
theorem d_Md_push_22 : decode b_Md_push 22 = .ok (.getfield 25, 3) := by decide +kernel
theorem d_Md_push_25 : decode b_Md_push 25 = .ok (.iload_n 2, 1) := by decide +kernel
theorem d_Md_push_26 : decode b_Md_push 26 = .ok (.iaload, 1) := by decide +kernel
theorem d_Md_push_27 : decode b_Md_push 27 = .ok (.iastore, 1) := by decide +kernel
theorem d_Md_push_28 : decode b_Md_push 28 = .ok (.aload_n 0, 1) := by decide +kernel
theorem d_Md_push_29 : decode b_Md_push 29 = .ok (.getfield 41, 3) := by decide +kernel
theorem d_Md_push_32 : decode b_Md_push 32 = .ok (.aload_n 0, 1) := by decide +kernel
theorem d_Md_push_33 : decode b_Md_push 33 = .ok (.getfield 137, 3) := by decide +kernel
theorem d_Md_push_36 : decode b_Md_push 36 = .ok (.bipush 12, 2) := by decide +kernel
theorem d_Md_push_38 : decode b_Md_push 38 = .ok (.imul, 1) := by decide +kernel
theorem d_Md_push_39 : decode b_Md_push 39 = .ok (.iload_n 2, 1) := by decide +kernel
theorem d_Md_push_40 : decode b_Md_push 40 = .ok (.iadd, 1) := by decide +kernel
theorem d_Md_push_41 : decode b_Md_push 41 = .ok (.aload_n 0, 1) := by decide +kernel
theorem d_Md_push_42 : decode b_Md_push 42 = .ok (.getfield 28, 3) := by decide +kernel
theorem d_Md_push_45 : decode b_Md_push 45 = .ok (.iload_n 2, 1) := by decide +kernel
theorem d_Md_push_46 : decode b_Md_push 46 = .ok (.laload, 1) := by decide +kernel
theorem d_Md_push_47 : decode b_Md_push 47 = .ok (.lastore, 1) := by decide +kernel
theorem d_Md_push_48 : decode b_Md_push 48 = .ok (.aload_n 0, 1) := by decide +kernel
theorem d_Md_push_49 : decode b_Md_push 49 = .ok (.getfield 44, 3) := by decide +kernel
theorem d_Md_push_52 : decode b_Md_push 52 = .ok (.aload_n 0, 1) := by decide +kernel
theorem d_Md_push_53 : decode b_Md_push 53 = .ok (.getfield 137, 3) := by decide +kernel
theorem d_Md_push_56 : decode b_Md_push 56 = .ok (.bipush 12, 2) := by decide +kernel
theorem d_Md_push_58 : decode b_Md_push 58 = .ok (.imul, 1) := by decide +kernel
theorem d_Md_push_59 : decode b_Md_push 59 = .ok (.iload_n 2, 1) := by decide +kernel
theorem d_Md_push_60 : decode b_Md_push 60 = .ok (.iadd, 1) := by decide +kernel
theorem d_Md_push_61 : decode b_Md_push 61 = .ok (.aload_n 0, 1) := by decide +kernel
theorem d_Md_push_62 : decode b_Md_push 62 = .ok (.getfield 32, 3) := by decide +kernel
theorem d_Md_push_65 : decode b_Md_push 65 = .ok (.iload_n 2, 1) := by decide +kernel
theorem d_Md_push_66 : decode b_Md_push 66 = .ok (.laload, 1) := by decide +kernel
theorem d_Md_push_67 : decode b_Md_push 67 = .ok (.lastore, 1) := by decide +kernel
theorem d_Md_push_68 : decode b_Md_push 68 = .ok (.iinc 2 1, 3) := by decide +kernel
theorem d_Md_push_71 : decode b_Md_push 71 = .ok (.goto (-69), 3) := by decide +kernel
theorem d_Md_push_74 : decode b_Md_push 74 = .ok (.aload_n 0, 1) := by decide +kernel
theorem d_Md_push_75 : decode b_Md_push 75 = .ok (.getfield 38, 3) := by decide +kernel
theorem d_Md_push_78 : decode b_Md_push 78 = .ok (.aload_n 0, 1) := by decide +kernel
theorem d_Md_push_79 : decode b_Md_push 79 = .ok (.getfield 137, 3) := by decide +kernel
theorem d_Md_push_82 : decode b_Md_push 82 = .ok (.iload_n 1, 1) := by decide +kernel
theorem d_Md_push_83 : decode b_Md_push 83 = .ok (.iastore, 1) := by decide +kernel
theorem d_Md_push_84 : decode b_Md_push 84 = .ok (.aload_n 0, 1) := by decide +kernel
theorem d_Md_push_85 : decode b_Md_push 85 = .ok (.dup, 1) := by decide +kernel
theorem d_Md_push_86 : decode b_Md_push 86 = .ok (.getfield 137, 3) := by decide +kernel
theorem d_Md_push_89 : decode b_Md_push 89 = .ok (.iconst 1, 1) := by decide +kernel
theorem d_Md_push_90 : decode b_Md_push 90 = .ok (.iadd, 1) := by decide +kernel
theorem d_Md_push_91 : decode b_Md_push 91 = .ok (.putfield 137, 3) := by decide +kernel
theorem d_Md_push_94 : decode b_Md_push 94 = .ok (.return_, 1) := by decide +kernel
theorem d_Md_pop_0 : decode b_Md_pop 0 = .ok (.aload_n 0, 1) := by decide +kernel
theorem d_Md_pop_1 : decode b_Md_pop 1 = .ok (.dup, 1) := by decide +kernel
theorem d_Md_pop_2 : decode b_Md_pop 2 = .ok (.getfield 137, 3) := by decide +kernel
theorem d_Md_pop_5 : decode b_Md_pop 5 = .ok (.iconst 1, 1) := by decide +kernel
theorem d_Md_pop_6 : decode b_Md_pop 6 = .ok (.isub, 1) := by decide +kernel
theorem d_Md_pop_7 : decode b_Md_pop 7 = .ok (.putfield 137, 3) := by decide +kernel
theorem d_Md_pop_10 : decode b_Md_pop 10 = .ok (.iconst 0, 1) := by decide +kernel
theorem d_Md_pop_11 : decode b_Md_pop 11 = .ok (.istore_n 1, 1) := by decide +kernel
theorem d_Md_pop_12 : decode b_Md_pop 12 = .ok (.iload_n 1, 1) := by decide +kernel
theorem d_Md_pop_13 : decode b_Md_pop 13 = .ok (.bipush 12, 2) := by decide +kernel
theorem d_Md_pop_15 : decode b_Md_pop 15 = .ok (.if_icmp .ge 56, 3) := by decide +kernel
theorem d_Md_pop_18 : decode b_Md_pop 18 = .ok (.aload_n 0, 1) := by decide +kernel
theorem d_Md_pop_19 : decode b_Md_pop 19 = .ok (.iload_n 1, 1) := by decide +kernel
theorem d_Md_pop_20 : decode b_Md_pop 20 = .ok (.aload_n 0, 1) := by decide +kernel
theorem d_Md_pop_21 : decode b_Md_pop 21 = .ok (.getfield 35, 3) := by decide +kernel
theorem d_Md_pop_24 : decode b_Md_pop 24 = .ok (.aload_n 0, 1) := by decide +kernel
theorem d_Md_pop_25 : decode b_Md_pop 25 = .ok (.getfield 137, 3) := by decide +kernel
theorem d_Md_pop_28 : decode b_Md_pop 28 = .ok (.bipush 12, 2) := by decide +kernel
theorem d_Md_pop_30 : decode b_Md_pop 30 = .ok (.imul, 1) := by decide +kernel
theorem d_Md_pop_31 : decode b_Md_pop 31 = .ok (.iload_n 1, 1) := by decide +kernel
theorem d_Md_pop_32 : decode b_Md_pop 32 = .ok (.iadd, 1) := by decide +kernel
theorem d_Md_pop_33 : decode b_Md_pop 33 = .ok (.iaload, 1) := by decide +kernel
theorem d_Md_pop_34 : decode b_Md_pop 34 = .ok (.aload_n 0, 1) := by decide +kernel
theorem d_Md_pop_35 : decode b_Md_pop 35 = .ok (.getfield 41, 3) := by decide +kernel
theorem d_Md_pop_38 : decode b_Md_pop 38 = .ok (.aload_n 0, 1) := by decide +kernel
theorem d_Md_pop_39 : decode b_Md_pop 39 = .ok (.getfield 137, 3) := by decide +kernel
theorem d_Md_pop_42 : decode b_Md_pop 42 = .ok (.bipush 12, 2) := by decide +kernel
theorem d_Md_pop_44 : decode b_Md_pop 44 = .ok (.imul, 1) := by decide +kernel
theorem d_Md_pop_45 : decode b_Md_pop 45 = .ok (.iload_n 1, 1) := by decide +kernel
theorem d_Md_pop_46 : decode b_Md_pop 46 = .ok (.iadd, 1) := by decide +kernel
theorem d_Md_pop_47 : decode b_Md_pop 47 = .ok (.laload, 1) := by decide +kernel
theorem d_Md_pop_48 : decode b_Md_pop 48 = .ok (.aload_n 0, 1) := by decide +kernel
theorem d_Md_pop_49 : decode b_Md_pop 49 = .ok (.getfield 44, 3) := by decide +kernel
theorem d_Md_pop_52 : decode b_Md_pop 52 = .ok (.aload_n 0, 1) := by decide +kernel
theorem d_Md_pop_53 : decode b_Md_pop 53 = .ok (.getfield 137, 3) := by decide +kernel
theorem d_Md_pop_56 : decode b_Md_pop 56 = .ok (.bipush 12, 2) := by decide +kernel
theorem d_Md_pop_58 : decode b_Md_pop 58 = .ok (.imul, 1) := by decide +kernel
theorem d_Md_pop_59 : decode b_Md_pop 59 = .ok (.iload_n 1, 1) := by decide +kernel
theorem d_Md_pop_60 : decode b_Md_pop 60 = .ok (.iadd, 1) := by decide +kernel
theorem d_Md_pop_61 : decode b_Md_pop 61 = .ok (.laload, 1) := by decide +kernel
theorem d_Md_pop_62 : decode b_Md_pop 62 = .ok (.invokevirtual 83, 3) := by decide +kernel
theorem d_Md_pop_65 : decode b_Md_pop 65 = .ok (.iinc 1 1, 3) := by decide +kernel
theorem d_Md_pop_68 : decode b_Md_pop 68 = .ok (.goto (-56), 3) := by decide +kernel
theorem d_Md_pop_71 : decode b_Md_pop 71 = .ok (.aload_n 0, 1) := by decide +kernel
theorem d_Md_pop_72 : decode b_Md_pop 72 = .ok (.aload_n 0, 1) := by decide +kernel
theorem d_Md_pop_73 : decode b_Md_pop 73 = .ok (.getfield 38, 3) := by decide +kernel
theorem d_Md_pop_76 : decode b_Md_pop 76 = .ok (.aload_n 0, 1) := by decide +kernel
theorem d_Md_pop_77 : decode b_Md_pop 77 = .ok (.getfield 137, 3) := by decide +kernel
theorem d_Md_pop_80 : decode b_Md_pop 80 = .ok (.iaload, 1) := by decide +kernel
theorem d_Md_pop_81 : decode b_Md_pop 81 = .ok (.putfield 140, 3) := by decide +kernel
theorem d_Md_pop_84 : decode b_Md_pop 84 = .ok (.return_, 1) := by decide +kernel
theorem d_Md_move_0 : decode b_Md_move 0 = .ok (.aload_n 0, 1) := by decide +kernel
theorem d_Md_move_1 : decode b_Md_move 1 = .ok (.getfield 28, 3) := by decide +kernel
theorem d_Md_move_4 : decode b_Md_move 4 = .ok (.iload_n 1, 1) := by decide +kernel
theorem d_Md_move_5 : decode b_Md_move 5 = .ok (.laload, 1) := by decide +kernel
theorem d_Md_move_6 : decode b_Md_move 6 = .ok (.lload_n 2, 1) := by decide +kernel
theorem d_Md_move_7 : decode b_Md_move 7 = .ok (.invokestatic 105, 3) := by decide +kernel
theorem d_Md_move_10 : decode b_Md_move 10 = .ok (.ifCond .ne 17, 3) := by decide +kernel
theorem d_Md_move_13 : decode b_Md_move 13 = .ok (.aload_n 0, 1) := by decide +kernel
theorem d_Md_move_14 : decode b_Md_move 14 = .ok (.getfield 32, 3) := by decide +kernel
theorem d_Md_move_17 : decode b_Md_move 17 = .ok (.iload_n 1, 1) := by decide +kernel
theorem d_Md_move_18 : decode b_Md_move 18 = .ok (.laload, 1) := by decide +kernel
theorem d_Md_move_19 : decode b_Md_move 19 = .ok (.lload 4, 2) := by decide +kernel
theorem d_Md_move_21 : decode b_Md_move 21 = .ok (.invokestatic 105, 3) := by decide +kernel
theorem d_Md_move_24 : decode b_Md_move 24 = .ok (.ifCond .eq 11, 3) := by decide +kernel
theorem d_Md_move_27 : decode b_Md_move 27 = .ok (.aload_n 0, 1) := by decide +kernel
theorem d_Md_move_28 : decode b_Md_move 28 = .ok (.iload_n 1, 1) := by decide +kernel
theorem d_Md_move_29 : decode b_Md_move 29 = .ok (.invokevirtual 143, 3) := by decide +kernel
theorem d_Md_move_32 : decode b_Md_move 32 = .ok (.goto 31, 3) := by decide +kernel
theorem d_Md_move_35 : decode b_Md_move 35 = .ok (.aload_n 0, 1) := by decide +kernel
theorem d_Md_move_36 : decode b_Md_move 36 = .ok (.iload_n 1, 1) := by decide +kernel
theorem d_Md_move_37 : decode b_Md_move 37 = .ok (.aload_n 0, 1) := by decide +kernel
theorem d_Md_move_38 : decode b_Md_move 38 = .ok (.getfield 25, 3) := by decide +kernel
theorem d_Md_move_41 : decode b_Md_move 41 = .ok (.iload_n 1, 1) := by decide +kernel
theorem d_Md_move_42 : decode b_Md_move 42 = .ok (.iaload, 1) := by decide +kernel
theorem d_Md_move_43 : decode b_Md_move 43 = .ok (.aload_n 0, 1) := by decide +kernel
theorem d_Md_move_44 : decode b_Md_move 44 = .ok (.getfield 28, 3) := by decide +kernel
theorem d_Md_move_47 : decode b_Md_move 47 = .ok (.iload_n 1, 1) := by decide +kernel
theorem d_Md_move_48 : decode b_Md_move 48 = .ok (.laload, 1) := by decide +kernel
theorem d_Md_move_49 : decode b_Md_move 49 = .ok (.lload_n 2, 1) := by decide +kernel
theorem d_Md_move_50 : decode b_Md_move 50 = .ok (.ladd, 1) := by decide +kernel
theorem d_Md_move_51 : decode b_Md_move 51 = .ok (.aload_n 0, 1) := by decide +kernel
theorem d_Md_move_52 : decode b_Md_move 52 = .ok (.getfield 32, 3) := by decide +kernel
theorem d_Md_move_55 : decode b_Md_move 55 = .ok (.iload_n 1, 1) := by decide +kernel
theorem d_Md_move_56 : decode b_Md_move 56 = .ok (.laload, 1) := by decide +kernel
theorem d_Md_move_57 : decode b_Md_move 57 = .ok (.lload 4, 2) := by decide +kernel
theorem d_Md_move_59 : decode b_Md_move 59 = .ok (.ladd, 1) := by decide +kernel
theorem d_Md_move_60 : decode b_Md_move 60 = .ok (.invokevirtual 83, 3) := by decide +kernel
theorem d_Md_move_63 : decode b_Md_move 63 = .ok (.return_, 1) := by decide +kernel
theorem d_Md_spread_0 : decode b_Md_spread 0 = .ok (.aload_n 0, 1) := by decide +kernel
theorem d_Md_spread_1 : decode b_Md_spread 1 = .ok (.iload_n 1, 1) := by decide +kernel
theorem d_Md_spread_2 : decode b_Md_spread 2 = .ok (.iconst 1, 1) := by decide +kernel
theorem d_Md_spread_3 : decode b_Md_spread 3 = .ok (.lload_n 2, 1) := by decide +kernel
theorem d_Md_spread_4 : decode b_Md_spread 4 = .ok (.lload 4, 2) := by decide +kernel
theorem d_Md_spread_6 : decode b_Md_spread 6 = .ok (.lcmp, 1) := by decide +kernel
theorem d_Md_spread_7 : decode b_Md_spread 7 = .ok (.ifCond .ge 7, 3) := by decide +kernel
theorem d_Md_spread_10 : decode b_Md_spread 10 = .ok (.lload_n 2, 1) := by decide +kernel
theorem d_Md_spread_11 : decode b_Md_spread 11 = .ok (.goto 5, 3) := by decide +kernel
theorem d_Md_spread_14 : decode b_Md_spread 14 = .ok (.lload 4, 2) := by decide +kernel
theorem d_Md_spread_16 : decode b_Md_spread 16 = .ok (.lload_n 2, 1) := by decide +kernel
theorem d_Md_spread_17 : decode b_Md_spread 17 = .ok (.lload 4, 2) := by decide +kernel
theorem d_Md_spread_19 : decode b_Md_spread 19 = .ok (.lcmp, 1) := by decide +kernel
theorem d_Md_spread_20 : decode b_Md_spread 20 = .ok (.ifCond .ge 8, 3) := by decide +kernel
theorem d_Md_spread_23 : decode b_Md_spread 23 = .ok (.lload 4, 2) := by decide +kernel
theorem d_Md_spread_25 : decode b_Md_spread 25 = .ok (.goto 4, 3) := by decide +kernel
theorem d_Md_spread_28 : decode b_Md_spread 28 = .ok (.lload_n 2, 1) := by decide +kernel
theorem d_Md_spread_29 : decode b_Md_spread 29 = .ok (.invokevirtual 83, 3) := by decide +kernel
theorem d_Md_spread_32 : decode b_Md_spread 32 = .ok (.return_, 1) := by decide +kernel
theorem d_Md_subtract_0 : decode b_Md_subtract 0 = .ok (.aload_n 0, 1) := by decide +kernel
theorem d_Md_subtract_1 : decode b_Md_subtract 1 = .ok (.getfield 28, 3) := by decide +kernel
theorem d_Md_subtract_4 : decode b_Md_subtract 4 = .ok (.iload_n 1, 1) := by decide +kernel
theorem d_Md_subtract_5 : decode b_Md_subtract 5 = .ok (.laload, 1) := by decide +kernel
theorem d_Md_subtract_6 : decode b_Md_subtract 6 = .ok (.aload_n 0, 1) := by decide +kernel
theorem d_Md_subtract_7 : decode b_Md_subtract 7 = .ok (.getfield 32, 3) := by decide +kernel
theorem d_Md_subtract_10 : decode b_Md_subtract 10 = .ok (.iload_n 2, 1) := by decide +kernel
theorem d_Md_subtract_11 : decode b_Md_subtract 11 = .ok (.laload, 1) := by decide +kernel
theorem d_Md_subtract_12 : decode b_Md_subtract 12 = .ok (.lsub, 1) := by decide +kernel
theorem d_Md_subtract_13 : decode b_Md_subtract 13 = .ok (.lstore_n 3, 1) := by decide +kernel
theorem d_Md_subtract_14 : decode b_Md_subtract 14 = .ok (.aload_n 0, 1) := by decide +kernel
theorem d_Md_subtract_15 : decode b_Md_subtract 15 = .ok (.getfield 32, 3) := by decide +kernel
theorem d_Md_subtract_18 : decode b_Md_subtract 18 = .ok (.iload_n 1, 1) := by decide +kernel
theorem d_Md_subtract_19 : decode b_Md_subtract 19 = .ok (.laload, 1) := by decide +kernel
theorem d_Md_subtract_20 : decode b_Md_subtract 20 = .ok (.aload_n 0, 1) := by decide +kernel
theorem d_Md_subtract_21 : decode b_Md_subtract 21 = .ok (.getfield 28, 3) := by decide +kernel
theorem d_Md_subtract_24 : decode b_Md_subtract 24 = .ok (.iload_n 2, 1) := by decide +kernel
theorem d_Md_subtract_25 : decode b_Md_subtract 25 = .ok (.laload, 1) := by decide +kernel
theorem d_Md_subtract_26 : decode b_Md_subtract 26 = .ok (.lsub, 1) := by decide +kernel
theorem d_Md_subtract_27 : decode b_Md_subtract 27 = .ok (.lstore 5, 2) := by decide +kernel
theorem d_Md_subtract_29 : decode b_Md_subtract 29 = .ok (.aload_n 0, 1) := by decide +kernel
theorem d_Md_subtract_30 : decode b_Md_subtract 30 = .ok (.getfield 28, 3) := by decide +kernel
theorem d_Md_subtract_33 : decode b_Md_subtract 33 = .ok (.iload_n 1, 1) := by decide +kernel
theorem d_Md_subtract_34 : decode b_Md_subtract 34 = .ok (.laload, 1) := by decide +kernel
theorem d_Md_subtract_35 : decode b_Md_subtract 35 = .ok (.aload_n 0, 1) := by decide +kernel
theorem d_Md_subtract_36 : decode b_Md_subtract 36 = .ok (.getfield 32, 3) := by decide +kernel
theorem d_Md_subtract_39 : decode b_Md_subtract 39 = .ok (.iload_n 2, 1) := by decide +kernel
theorem d_Md_subtract_40 : decode b_Md_subtract 40 = .ok (.laload, 1) := by decide +kernel
theorem d_Md_subtract_41 : decode b_Md_subtract 41 = .ok (.lxor, 1) := by decide +kernel
theorem d_Md_subtract_42 : decode b_Md_subtract 42 = .ok (.aload_n 0, 1) := by decide +kernel
theorem d_Md_subtract_43 : decode b_Md_subtract 43 = .ok (.getfield 28, 3) := by decide +kernel
theorem d_Md_subtract_46 : decode b_Md_subtract 46 = .ok (.iload_n 1, 1) := by decide +kernel
theorem d_Md_subtract_47 : decode b_Md_subtract 47 = .ok (.laload, 1) := by decide +kernel
theorem d_Md_subtract_48 : decode b_Md_subtract 48 = .ok (.lload_n 3, 1) := by decide +kernel
theorem d_Md_subtract_49 : decode b_Md_subtract 49 = .ok (.lxor, 1) := by decide +kernel
theorem d_Md_subtract_50 : decode b_Md_subtract 50 = .ok (.land, 1) := by decide +kernel
theorem d_Md_subtract_51 : decode b_Md_subtract 51 = .ok (.lconst 0, 1) := by decide +kernel
theorem d_Md_subtract_52 : decode b_Md_subtract 52 = .ok (.lcmp, 1) := by decide +kernel
theorem d_Md_subtract_53 : decode b_Md_subtract 53 = .ok (.ifCond .lt 31, 3) := by decide +kernel
theorem d_Md_subtract_56 : decode b_Md_subtract 56 = .ok (.aload_n 0, 1) := by decide +kernel
theorem d_Md_subtract_57 : decode b_Md_subtract 57 = .ok (.getfield 32, 3) := by decide +kernel
theorem d_Md_subtract_60 : decode b_Md_subtract 60 = .ok (.iload_n 1, 1) := by decide +kernel
theorem d_Md_subtract_61 : decode b_Md_subtract 61 = .ok (.laload, 1) := by decide +kernel
theorem d_Md_subtract_62 : decode b_Md_subtract 62 = .ok (.aload_n 0, 1) := by decide +kernel
theorem d_Md_subtract_63 : decode b_Md_subtract 63 = .ok (.getfield 28, 3) := by decide +kernel
theorem d_Md_subtract_66 : decode b_Md_subtract 66 = .ok (.iload_n 2, 1) := by decide +kernel
theorem d_Md_subtract_67 : decode b_Md_subtract 67 = .ok (.laload, 1) := by decide +kernel
theorem d_Md_subtract_68 : decode b_Md_subtract 68 = .ok (.lxor, 1) := by decide +kernel
theorem d_Md_subtract_69 : decode b_Md_subtract 69 = .ok (.aload_n 0, 1) := by decide +kernel
theorem d_Md_subtract_70 : decode b_Md_subtract 70 = .ok (.getfield 32, 3) := by decide +kernel
theorem d_Md_subtract_73 : decode b_Md_subtract 73 = .ok (.iload_n 1, 1) := by decide +kernel
theorem d_Md_subtract_74 : decode b_Md_subtract 74 = .ok (.laload, 1) := by decide +kernel
theorem d_Md_subtract_75 : decode b_Md_subtract 75 = .ok (.lload 5, 2) := by decide +kernel
theorem d_Md_subtract_77 : decode b_Md_subtract 77 = .ok (.lxor, 1) := by decide +kernel
theorem d_Md_subtract_78 : decode b_Md_subtract 78 = .ok (.land, 1) := by decide +kernel
theorem d_Md_subtract_79 : decode b_Md_subtract 79 = .ok (.lconst 0, 1) := by decide +kernel
theorem d_Md_subtract_80 : decode b_Md_subtract 80 = .ok (.lcmp, 1) := by decide +kernel
theorem d_Md_subtract_81 : decode b_Md_subtract 81 = .ok (.ifCond .ge 11, 3) := by decide +kernel
theorem d_Md_subtract_84 : decode b_Md_subtract 84 = .ok (.aload_n 0, 1) := by decide +kernel
theorem d_Md_subtract_85 : decode b_Md_subtract 85 = .ok (.iload_n 1, 1) := by decide +kernel
theorem d_Md_subtract_86 : decode b_Md_subtract 86 = .ok (.invokevirtual 143, 3) := by decide +kernel
theorem d_Md_subtract_89 : decode b_Md_subtract 89 = .ok (.goto 12, 3) := by decide +kernel
theorem d_Md_subtract_92 : decode b_Md_subtract 92 = .ok (.aload_n 0, 1) := by decide +kernel
theorem d_Md_subtract_93 : decode b_Md_subtract 93 = .ok (.iload_n 1, 1) := by decide +kernel
theorem d_Md_subtract_94 : decode b_Md_subtract 94 = .ok (.iconst 1, 1) := by decide +kernel
theorem d_Md_subtract_95 : decode b_Md_subtract 95 = .ok (.lload_n 3, 1) := by decide +kernel
theorem d_Md_subtract_96 : decode b_Md_subtract 96 = .ok (.lload 5, 2) := by decide +kernel
theorem d_Md_subtract_98 : decode b_Md_subtract 98 = .ok (.invokevirtual 83, 3) := by decide +kernel
theorem d_Md_subtract_101 : decode b_Md_subtract 101 = .ok (.return_, 1) := by decide +kernel
theorem d_Md_and_0 : decode b_Md_and 0 = .ok (.aload_n 0, 1) := by decide +kernel
theorem d_Md_and_1 : decode b_Md_and 1 = .ok (.getfield 28, 3) := by decide +kernel
theorem d_Md_and_4 : decode b_Md_and 4 = .ok (.iload_n 1, 1) := by decide +kernel
theorem d_Md_and_5 : decode b_Md_and 5 = .ok (.laload, 1) := by decide +kernel
theorem d_Md_and_6 : decode b_Md_and 6 = .ok (.aload_n 0, 1) := by decide +kernel
theorem d_Md_and_7 : decode b_Md_and 7 = .ok (.getfield 32, 3) := by decide +kernel
theorem d_Md_and_10 : decode b_Md_and 10 = .ok (.iload_n 1, 1) := by decide +kernel
theorem d_Md_and_11 : decode b_Md_and 11 = .ok (.laload, 1) := by decide +kernel
theorem d_Md_and_12 : decode b_Md_and 12 = .ok (.lcmp, 1) := by decide +kernel
theorem d_Md_and_13 : decode b_Md_and 13 = .ok (.ifCond .ne 28, 3) := by decide +kernel
theorem d_Md_and_16 : decode b_Md_and 16 = .ok (.aload_n 0, 1) := by decide +kernel
theorem d_Md_and_17 : decode b_Md_and 17 = .ok (.iload_n 1, 1) := by decide +kernel
theorem d_Md_and_18 : decode b_Md_and 18 = .ok (.iconst 1, 1) := by decide +kernel
theorem d_Md_and_19 : decode b_Md_and 19 = .ok (.aload_n 0, 1) := by decide +kernel
theorem d_Md_and_20 : decode b_Md_and 20 = .ok (.getfield 28, 3) := by decide +kernel
theorem d_Md_and_23 : decode b_Md_and 23 = .ok (.iload_n 1, 1) := by decide +kernel
theorem d_Md_and_24 : decode b_Md_and 24 = .ok (.laload, 1) := by decide +kernel
theorem d_Md_and_25 : decode b_Md_and 25 = .ok (.lload_n 2, 1) := by decide +kernel
theorem d_Md_and_26 : decode b_Md_and 26 = .ok (.land, 1) := by decide +kernel
theorem d_Md_and_27 : decode b_Md_and 27 = .ok (.aload_n 0, 1) := by decide +kernel
theorem d_Md_and_28 : decode b_Md_and 28 = .ok (.getfield 28, 3) := by decide +kernel
theorem d_Md_and_31 : decode b_Md_and 31 = .ok (.iload_n 1, 1) := by decide +kernel
theorem d_Md_and_32 : decode b_Md_and 32 = .ok (.laload, 1) := by decide +kernel
theorem d_Md_and_33 : decode b_Md_and 33 = .ok (.lload_n 2, 1) := by decide +kernel
theorem d_Md_and_34 : decode b_Md_and 34 = .ok (.land, 1) := by decide +kernel
theorem d_Md_and_35 : decode b_Md_and 35 = .ok (.invokevirtual 83, 3) := by decide +kernel
theorem d_Md_and_38 : decode b_Md_and 38 = .ok (.goto 56, 3) := by decide +kernel
theorem d_Md_and_41 : decode b_Md_and 41 = .ok (.lload_n 2, 1) := by decide +kernel
theorem d_Md_and_42 : decode b_Md_and 42 = .ok (.lconst 0, 1) := by decide +kernel
theorem d_Md_and_43 : decode b_Md_and 43 = .ok (.lcmp, 1) := by decide +kernel
theorem d_Md_and_44 : decode b_Md_and 44 = .ok (.ifCond .ge 11, 3) := by decide +kernel
theorem d_Md_and_47 : decode b_Md_and 47 = .ok (.aload_n 0, 1) := by decide +kernel
theorem d_Md_and_48 : decode b_Md_and 48 = .ok (.iload_n 1, 1) := by decide +kernel
theorem d_Md_and_49 : decode b_Md_and 49 = .ok (.invokevirtual 143, 3) := by decide +kernel
theorem d_Md_and_52 : decode b_Md_and 52 = .ok (.goto 42, 3) := by decide +kernel
theorem d_Md_and_55 : decode b_Md_and 55 = .ok (.aload_n 0, 1) := by decide +kernel
theorem d_Md_and_56 : decode b_Md_and 56 = .ok (.iload_n 1, 1) := by decide +kernel
theorem d_Md_and_57 : decode b_Md_and 57 = .ok (.iconst 1, 1) := by decide +kernel
theorem d_Md_and_58 : decode b_Md_and 58 = .ok (.lconst 0, 1) := by decide +kernel
theorem d_Md_and_59 : decode b_Md_and 59 = .ok (.aload_n 0, 1) := by decide +kernel
theorem d_Md_and_60 : decode b_Md_and 60 = .ok (.getfield 28, 3) := by decide +kernel
theorem d_Md_and_63 : decode b_Md_and 63 = .ok (.iload_n 1, 1) := by decide +kernel
theorem d_Md_and_64 : decode b_Md_and 64 = .ok (.laload, 1) := by decide +kernel
theorem d_Md_and_65 : decode b_Md_and 65 = .ok (.lconst 0, 1) := by decide +kernel
theorem d_Md_and_66 : decode b_Md_and 66 = .ok (.lcmp, 1) := by decide +kernel
theorem d_Md_and_67 : decode b_Md_and 67 = .ok (.ifCond .lt 23, 3) := by decide +kernel
theorem d_Md_and_70 : decode b_Md_and 70 = .ok (.aload_n 0, 1) := by decide +kernel
theorem d_Md_and_71 : decode b_Md_and 71 = .ok (.getfield 32, 3) := by decide +kernel
theorem d_Md_and_74 : decode b_Md_and 74 = .ok (.iload_n 1, 1) := by decide +kernel
theorem d_Md_and_75 : decode b_Md_and 75 = .ok (.laload, 1) := by decide +kernel
theorem d_Md_and_76 : decode b_Md_and 76 = .ok (.lload_n 2, 1) := by decide +kernel
theorem d_Md_and_77 : decode b_Md_and 77 = .ok (.lcmp, 1) := by decide +kernel
theorem d_Md_and_78 : decode b_Md_and 78 = .ok (.ifCond .ge 12, 3) := by decide +kernel
theorem d_Md_and_81 : decode b_Md_and 81 = .ok (.aload_n 0, 1) := by decide +kernel
theorem d_Md_and_82 : decode b_Md_and 82 = .ok (.getfield 32, 3) := by decide +kernel
theorem d_Md_and_85 : decode b_Md_and 85 = .ok (.iload_n 1, 1) := by decide +kernel
theorem d_Md_and_86 : decode b_Md_and 86 = .ok (.laload, 1) := by decide +kernel
theorem d_Md_and_87 : decode b_Md_and 87 = .ok (.goto 4, 3) := by decide +kernel
theorem d_Md_and_90 : decode b_Md_and 90 = .ok (.lload_n 2, 1) := by decide +kernel
theorem d_Md_and_91 : decode b_Md_and 91 = .ok (.invokevirtual 83, 3) := by decide +kernel
theorem d_Md_and_94 : decode b_Md_and 94 = .ok (.return_, 1) := by decide +kernel
theorem d_Md_arithmetic_0 : decode b_Md_arithmetic 0 = .ok (.aload_n 0, 1) := by decide +kernel
theorem d_Md_arithmetic_1 : decode b_Md_arithmetic 1 = .ok (.getfield 28, 3) := by decide +kernel
theorem d_Md_arithmetic_4 : decode b_Md_arithmetic 4 = .ok (.iload_n 2, 1) := by decide +kernel
theorem d_Md_arithmetic_5 : decode b_Md_arithmetic 5 = .ok (.laload, 1) := by decide +kernel
theorem d_Md_arithmetic_6 : decode b_Md_arithmetic 6 = .ok (.lstore 5, 2) := by decide +kernel
theorem d_Md_arithmetic_8 : decode b_Md_arithmetic 8 = .ok (.aload_n 0, 1) := by decide +kernel
theorem d_Md_arithmetic_9 : decode b_Md_arithmetic 9 = .ok (.getfield 32, 3) := by decide +kernel
theorem d_Md_arithmetic_12 : decode b_Md_arithmetic 12 = .ok (.iload_n 2, 1) := by decide +kernel
theorem d_Md_arithmetic_13 : decode b_Md_arithmetic 13 = .ok (.laload, 1) := by decide +kernel
theorem d_Md_arithmetic_14 : decode b_Md_arithmetic 14 = .ok (.lstore 7, 2) := by decide +kernel
theorem d_Md_arithmetic_16 : decode b_Md_arithmetic 16 = .ok (.iload_n 1, 1) := by decide +kernel
theorem d_Md_arithmetic_17 : decode b_Md_arithmetic 17 = .ok (.iconst 5, 1) := by decide +kernel
theorem d_Md_arithmetic_18 : decode b_Md_arithmetic 18 = .ok (.if_icmp .ne 52, 3) := by decide +kernel
theorem d_Md_arithmetic_21 : decode b_Md_arithmetic 21 = .ok (.lload 5, 2) := by decide +kernel
theorem d_Md_arithmetic_23 : decode b_Md_arithmetic 23 = .ok (.ldc2_w 147, 3) := by decide +kernel
theorem d_Md_arithmetic_26 : decode b_Md_arithmetic 26 = .ok (.ldc2_w 149, 3) := by decide +kernel
theorem d_Md_arithmetic_29 : decode b_Md_arithmetic 29 = .ok (.invokestatic 56, 3) := by decide +kernel
theorem d_Md_arithmetic_32 : decode b_Md_arithmetic 32 = .ok (.ifCond .eq 33, 3) := by decide +kernel
theorem d_Md_arithmetic_35 : decode b_Md_arithmetic 35 = .ok (.lload 7, 2) := by decide +kernel
theorem d_Md_arithmetic_37 : decode b_Md_arithmetic 37 = .ok (.ldc2_w 147, 3) := by decide +kernel
theorem d_Md_arithmetic_40 : decode b_Md_arithmetic 40 = .ok (.ldc2_w 149, 3) := by decide +kernel
theorem d_Md_arithmetic_43 : decode b_Md_arithmetic 43 = .ok (.invokestatic 56, 3) := by decide +kernel
theorem d_Md_arithmetic_46 : decode b_Md_arithmetic 46 = .ok (.ifCond .eq 19, 3) := by decide +kernel
theorem d_Md_arithmetic_49 : decode b_Md_arithmetic 49 = .ok (.aload_n 0, 1) := by decide +kernel
theorem d_Md_arithmetic_50 : decode b_Md_arithmetic 50 = .ok (.iload_n 2, 1) := by decide +kernel
theorem d_Md_arithmetic_51 : decode b_Md_arithmetic 51 = .ok (.lload 5, 2) := by decide +kernel
theorem d_Md_arithmetic_53 : decode b_Md_arithmetic 53 = .ok (.lload_n 3, 1) := by decide +kernel
theorem d_Md_arithmetic_54 : decode b_Md_arithmetic 54 = .ok (.lmul, 1) := by decide +kernel
theorem d_Md_arithmetic_55 : decode b_Md_arithmetic 55 = .ok (.lload 7, 2) := by decide +kernel
theorem d_Md_arithmetic_57 : decode b_Md_arithmetic 57 = .ok (.lload_n 3, 1) := by decide +kernel
theorem d_Md_arithmetic_58 : decode b_Md_arithmetic 58 = .ok (.lmul, 1) := by decide +kernel
theorem d_Md_arithmetic_59 : decode b_Md_arithmetic 59 = .ok (.invokevirtual 151, 3) := by decide +kernel
theorem d_Md_arithmetic_62 : decode b_Md_arithmetic 62 = .ok (.goto 8, 3) := by decide +kernel
theorem d_Md_arithmetic_65 : decode b_Md_arithmetic 65 = .ok (.aload_n 0, 1) := by decide +kernel
theorem d_Md_arithmetic_66 : decode b_Md_arithmetic 66 = .ok (.iload_n 2, 1) := by decide +kernel
theorem d_Md_arithmetic_67 : decode b_Md_arithmetic 67 = .ok (.invokevirtual 143, 3) := by decide +kernel
theorem d_Md_arithmetic_70 : decode b_Md_arithmetic 70 = .ok (.iload_n 1, 1) := by decide +kernel
theorem d_Md_arithmetic_71 : decode b_Md_arithmetic 71 = .ok (.bipush 6, 2) := by decide +kernel
theorem d_Md_arithmetic_73 : decode b_Md_arithmetic 73 = .ok (.if_icmp .ne 9, 3) := by decide +kernel
theorem d_Md_arithmetic_76 : decode b_Md_arithmetic 76 = .ok (.aload_n 0, 1) := by decide +kernel
theorem d_Md_arithmetic_77 : decode b_Md_arithmetic 77 = .ok (.iload_n 2, 1) := by decide +kernel
theorem d_Md_arithmetic_78 : decode b_Md_arithmetic 78 = .ok (.lload_n 3, 1) := by decide +kernel
theorem d_Md_arithmetic_79 : decode b_Md_arithmetic 79 = .ok (.invokevirtual 155, 3) := by decide +kernel
theorem d_Md_arithmetic_82 : decode b_Md_arithmetic 82 = .ok (.iload_n 1, 1) := by decide +kernel
theorem d_Md_arithmetic_83 : decode b_Md_arithmetic 83 = .ok (.bipush 7, 2) := by decide +kernel
theorem d_Md_arithmetic_85 : decode b_Md_arithmetic 85 = .ok (.if_icmp .ne 19, 3) := by decide +kernel
theorem d_Md_arithmetic_88 : decode b_Md_arithmetic 88 = .ok (.aload_n 0, 1) := by decide +kernel
theorem d_Md_arithmetic_89 : decode b_Md_arithmetic 89 = .ok (.iload_n 2, 1) := by decide +kernel
theorem d_Md_arithmetic_90 : decode b_Md_arithmetic 90 = .ok (.iconst 1, 1) := by decide +kernel
theorem d_Md_arithmetic_91 : decode b_Md_arithmetic 91 = .ok (.lload 5, 2) := by decide +kernel
theorem d_Md_arithmetic_93 : decode b_Md_arithmetic 93 = .ok (.lload_n 3, 1) := by decide +kernel
theorem d_Md_arithmetic_94 : decode b_Md_arithmetic 94 = .ok (.l2i, 1) := by decide +kernel
theorem d_Md_arithmetic_95 : decode b_Md_arithmetic 95 = .ok (.lshr, 1) := by decide +kernel
theorem d_Md_arithmetic_96 : decode b_Md_arithmetic 96 = .ok (.lload 7, 2) := by decide +kernel
theorem d_Md_arithmetic_98 : decode b_Md_arithmetic 98 = .ok (.lload_n 3, 1) := by decide +kernel
theorem d_Md_arithmetic_99 : decode b_Md_arithmetic 99 = .ok (.l2i, 1) := by decide +kernel
theorem d_Md_arithmetic_100 : decode b_Md_arithmetic 100 = .ok (.lshr, 1) := by decide +kernel
theorem d_Md_arithmetic_101 : decode b_Md_arithmetic 101 = .ok (.invokevirtual 83, 3) := by decide +kernel
theorem d_Md_arithmetic_104 : decode b_Md_arithmetic 104 = .ok (.iload_n 1, 1) := by decide +kernel
theorem d_Md_arithmetic_105 : decode b_Md_arithmetic 105 = .ok (.bipush 8, 2) := by decide +kernel
theorem d_Md_arithmetic_107 : decode b_Md_arithmetic 107 = .ok (.if_icmp .ne 41, 3) := by decide +kernel
theorem d_Md_arithmetic_110 : decode b_Md_arithmetic 110 = .ok (.lload_n 3, 1) := by decide +kernel
theorem d_Md_arithmetic_111 : decode b_Md_arithmetic 111 = .ok (.ldc2_w 159, 3) := by decide +kernel
theorem d_Md_arithmetic_114 : decode b_Md_arithmetic 114 = .ok (.lcmp, 1) := by decide +kernel
theorem d_Md_arithmetic_115 : decode b_Md_arithmetic 115 = .ok (.ifCond .ne 20, 3) := by decide +kernel
theorem d_Md_arithmetic_118 : decode b_Md_arithmetic 118 = .ok (.lload 5, 2) := by decide +kernel
theorem d_Md_arithmetic_120 : decode b_Md_arithmetic 120 = .ok (.ldc2_w 87, 3) := by decide +kernel
theorem d_Md_arithmetic_123 : decode b_Md_arithmetic 123 = .ok (.lcmp, 1) := by decide +kernel
theorem d_Md_arithmetic_124 : decode b_Md_arithmetic 124 = .ok (.ifCond .ne 11, 3) := by decide +kernel
theorem d_Md_arithmetic_127 : decode b_Md_arithmetic 127 = .ok (.aload_n 0, 1) := by decide +kernel
theorem d_Md_arithmetic_128 : decode b_Md_arithmetic 128 = .ok (.iload_n 2, 1) := by decide +kernel
theorem d_Md_arithmetic_129 : decode b_Md_arithmetic 129 = .ok (.invokevirtual 143, 3) := by decide +kernel
theorem d_Md_arithmetic_132 : decode b_Md_arithmetic 132 = .ok (.goto 16, 3) := by decide +kernel
theorem d_Md_arithmetic_135 : decode b_Md_arithmetic 135 = .ok (.aload_n 0, 1) := by decide +kernel
theorem d_Md_arithmetic_136 : decode b_Md_arithmetic 136 = .ok (.iload_n 2, 1) := by decide +kernel
theorem d_Md_arithmetic_137 : decode b_Md_arithmetic 137 = .ok (.lload 5, 2) := by decide +kernel
theorem d_Md_arithmetic_139 : decode b_Md_arithmetic 139 = .ok (.lload_n 3, 1) := by decide +kernel
theorem d_Md_arithmetic_140 : decode b_Md_arithmetic 140 = .ok (.ldiv, 1) := by decide +kernel
theorem d_Md_arithmetic_141 : decode b_Md_arithmetic 141 = .ok (.lload 7, 2) := by decide +kernel
theorem d_Md_arithmetic_143 : decode b_Md_arithmetic 143 = .ok (.lload_n 3, 1) := by decide +kernel
theorem d_Md_arithmetic_144 : decode b_Md_arithmetic 144 = .ok (.ldiv, 1) := by decide +kernel
theorem d_Md_arithmetic_145 : decode b_Md_arithmetic 145 = .ok (.invokevirtual 151, 3) := by decide +kernel
theorem d_Md_arithmetic_148 : decode b_Md_arithmetic 148 = .ok (.iload_n 1, 1) := by decide +kernel
theorem d_Md_arithmetic_149 : decode b_Md_arithmetic 149 = .ok (.bipush 9, 2) := by decide +kernel
theorem d_Md_arithmetic_151 : decode b_Md_arithmetic 151 = .ok (.if_icmp .ne 32, 3) := by decide +kernel
theorem d_Md_arithmetic_154 : decode b_Md_arithmetic 154 = .ok (.lload 5, 2) := by decide +kernel
theorem d_Md_arithmetic_156 : decode b_Md_arithmetic 156 = .ok (.ldc2_w 87, 3) := by decide +kernel
theorem d_Md_arithmetic_159 : decode b_Md_arithmetic 159 = .ok (.lcmp, 1) := by decide +kernel
theorem d_Md_arithmetic_160 : decode b_Md_arithmetic 160 = .ok (.ifCond .ne 11, 3) := by decide +kernel
theorem d_Md_arithmetic_163 : decode b_Md_arithmetic 163 = .ok (.aload_n 0, 1) := by decide +kernel
theorem d_Md_arithmetic_164 : decode b_Md_arithmetic 164 = .ok (.iload_n 2, 1) := by decide +kernel
theorem d_Md_arithmetic_165 : decode b_Md_arithmetic 165 = .ok (.invokevirtual 143, 3) := by decide +kernel
theorem d_Md_arithmetic_168 : decode b_Md_arithmetic 168 = .ok (.goto 15, 3) := by decide +kernel
theorem d_Md_arithmetic_171 : decode b_Md_arithmetic 171 = .ok (.aload_n 0, 1) := by decide +kernel
theorem d_Md_arithmetic_172 : decode b_Md_arithmetic 172 = .ok (.iload_n 2, 1) := by decide +kernel
theorem d_Md_arithmetic_173 : decode b_Md_arithmetic 173 = .ok (.iconst 1, 1) := by decide +kernel
theorem d_Md_arithmetic_174 : decode b_Md_arithmetic 174 = .ok (.lload 7, 2) := by decide +kernel
theorem d_Md_arithmetic_176 : decode b_Md_arithmetic 176 = .ok (.lneg, 1) := by decide +kernel
theorem d_Md_arithmetic_177 : decode b_Md_arithmetic 177 = .ok (.lload 5, 2) := by decide +kernel
theorem d_Md_arithmetic_179 : decode b_Md_arithmetic 179 = .ok (.lneg, 1) := by decide +kernel
theorem d_Md_arithmetic_180 : decode b_Md_arithmetic 180 = .ok (.invokevirtual 83, 3) := by decide +kernel
theorem d_Md_arithmetic_183 : decode b_Md_arithmetic 183 = .ok (.return_, 1) := by decide +kernel
theorem d_Md_load_0 : decode b_Md_load 0 = .ok (.aload_n 0, 1) := by decide +kernel
theorem d_Md_load_1 : decode b_Md_load 1 = .ok (.getfield 16, 3) := by decide +kernel
theorem d_Md_load_4 : decode b_Md_load 4 = .ok (.iload_n 1, 1) := by decide +kernel
theorem d_Md_load_5 : decode b_Md_load 5 = .ok (.iaload, 1) := by decide +kernel
theorem d_Md_load_6 : decode b_Md_load 6 = .ok (.istore_n 2, 1) := by decide +kernel
theorem d_Md_load_7 : decode b_Md_load 7 = .ok (.bipush 6, 2) := by decide +kernel
theorem d_Md_load_9 : decode b_Md_load 9 = .ok (.aload_n 0, 1) := by decide +kernel
theorem d_Md_load_10 : decode b_Md_load 10 = .ok (.getfield 28, 3) := by decide +kernel
theorem d_Md_load_13 : decode b_Md_load 13 = .ok (.iload_n 2, 1) := by decide +kernel
theorem d_Md_load_14 : decode b_Md_load 14 = .ok (.laload, 1) := by decide +kernel
theorem d_Md_load_15 : decode b_Md_load 15 = .ok (.aload_n 0, 1) := by decide +kernel
theorem d_Md_load_16 : decode b_Md_load 16 = .ok (.getfield 19, 3) := by decide +kernel
theorem d_Md_load_19 : decode b_Md_load 19 = .ok (.iload_n 1, 1) := by decide +kernel
theorem d_Md_load_20 : decode b_Md_load 20 = .ok (.iaload, 1) := by decide +kernel
theorem d_Md_load_21 : decode b_Md_load 21 = .ok (.i2l, 1) := by decide +kernel
theorem d_Md_load_22 : decode b_Md_load 22 = .ok (.ladd, 1) := by decide +kernel
theorem d_Md_load_23 : decode b_Md_load 23 = .ok (.l2i, 1) := by decide +kernel
theorem d_Md_load_24 : decode b_Md_load 24 = .ok (.iadd, 1) := by decide +kernel
theorem d_Md_load_25 : decode b_Md_load 25 = .ok (.istore_n 3, 1) := by decide +kernel
theorem d_Md_load_26 : decode b_Md_load 26 = .ok (.bipush 6, 2) := by decide +kernel
theorem d_Md_load_28 : decode b_Md_load 28 = .ok (.aload_n 0, 1) := by decide +kernel
theorem d_Md_load_29 : decode b_Md_load 29 = .ok (.getfield 32, 3) := by decide +kernel
theorem d_Md_load_32 : decode b_Md_load 32 = .ok (.iload_n 2, 1) := by decide +kernel
theorem d_Md_load_33 : decode b_Md_load 33 = .ok (.laload, 1) := by decide +kernel
theorem d_Md_load_34 : decode b_Md_load 34 = .ok (.aload_n 0, 1) := by decide +kernel
theorem d_Md_load_35 : decode b_Md_load 35 = .ok (.getfield 19, 3) := by decide +kernel
theorem d_Md_load_38 : decode b_Md_load 38 = .ok (.iload_n 1, 1) := by decide +kernel
theorem d_Md_load_39 : decode b_Md_load 39 = .ok (.iaload, 1) := by decide +kernel
theorem d_Md_load_40 : decode b_Md_load 40 = .ok (.i2l, 1) := by decide +kernel
theorem d_Md_load_41 : decode b_Md_load 41 = .ok (.ladd, 1) := by decide +kernel
theorem d_Md_load_42 : decode b_Md_load 42 = .ok (.l2i, 1) := by decide +kernel
theorem d_Md_load_43 : decode b_Md_load 43 = .ok (.iadd, 1) := by decide +kernel
theorem d_Md_load_44 : decode b_Md_load 44 = .ok (.istore 4, 2) := by decide +kernel
theorem d_Md_load_46 : decode b_Md_load 46 = .ok (.aload_n 0, 1) := by decide +kernel
theorem d_Md_load_47 : decode b_Md_load 47 = .ok (.getfield 25, 3) := by decide +kernel
theorem d_Md_load_50 : decode b_Md_load 50 = .ok (.iload_n 2, 1) := by decide +kernel
theorem d_Md_load_51 : decode b_Md_load 51 = .ok (.iaload, 1) := by decide +kernel
theorem d_Md_load_52 : decode b_Md_load 52 = .ok (.iconst 3, 1) := by decide +kernel
theorem d_Md_load_53 : decode b_Md_load 53 = .ok (.if_icmp .ne 14, 3) := by decide +kernel
theorem d_Md_load_56 : decode b_Md_load 56 = .ok (.aload_n 0, 1) := by decide +kernel
theorem d_Md_load_57 : decode b_Md_load 57 = .ok (.aload_n 0, 1) := by decide +kernel
theorem d_Md_load_58 : decode b_Md_load 58 = .ok (.getfield 13, 3) := by decide +kernel
theorem d_Md_load_61 : decode b_Md_load 61 = .ok (.iload_n 1, 1) := by decide +kernel
theorem d_Md_load_62 : decode b_Md_load 62 = .ok (.iaload, 1) := by decide +kernel
theorem d_Md_load_63 : decode b_Md_load 63 = .ok (.invokevirtual 143, 3) := by decide +kernel
theorem d_Md_load_66 : decode b_Md_load 66 = .ok (.return_, 1) := by decide +kernel
theorem d_Md_load_67 : decode b_Md_load 67 = .ok (.aload_n 0, 1) := by decide +kernel
theorem d_Md_load_68 : decode b_Md_load 68 = .ok (.getfield 25, 3) := by decide +kernel
theorem d_Md_load_71 : decode b_Md_load 71 = .ok (.iload_n 3, 1) := by decide +kernel
theorem d_Md_load_72 : decode b_Md_load 72 = .ok (.iaload, 1) := by decide +kernel
theorem d_Md_load_73 : decode b_Md_load 73 = .ok (.istore 5, 2) := by decide +kernel
theorem d_Md_load_75 : decode b_Md_load 75 = .ok (.aload_n 0, 1) := by decide +kernel
theorem d_Md_load_76 : decode b_Md_load 76 = .ok (.getfield 28, 3) := by decide +kernel
theorem d_Md_load_79 : decode b_Md_load 79 = .ok (.iload_n 3, 1) := by decide +kernel
theorem d_Md_load_80 : decode b_Md_load 80 = .ok (.laload, 1) := by decide +kernel
theorem d_Md_load_81 : decode b_Md_load 81 = .ok (.lstore 6, 2) := by decide +kernel
theorem d_Md_load_83 : decode b_Md_load 83 = .ok (.aload_n 0, 1) := by decide +kernel
theorem d_Md_load_84 : decode b_Md_load 84 = .ok (.getfield 32, 3) := by decide +kernel
theorem d_Md_load_87 : decode b_Md_load 87 = .ok (.iload_n 3, 1) := by decide +kernel
theorem d_Md_load_88 : decode b_Md_load 88 = .ok (.laload, 1) := by decide +kernel
theorem d_Md_load_89 : decode b_Md_load 89 = .ok (.lstore 8, 2) := by decide +kernel
theorem d_Md_load_91 : decode b_Md_load 91 = .ok (.iload_n 3, 1) := by decide +kernel
theorem d_Md_load_92 : decode b_Md_load 92 = .ok (.iconst 1, 1) := by decide +kernel
theorem d_Md_load_93 : decode b_Md_load 93 = .ok (.iadd, 1) := by decide +kernel
theorem d_Md_load_94 : decode b_Md_load 94 = .ok (.istore 10, 2) := by decide +kernel
theorem d_Md_load_96 : decode b_Md_load 96 = .ok (.iload 10, 2) := by decide +kernel
theorem d_Md_load_98 : decode b_Md_load 98 = .ok (.iload 4, 2) := by decide +kernel
theorem d_Md_load_100 : decode b_Md_load 100 = .ok (.if_icmp .gt 53, 3) := by decide +kernel
theorem d_Md_load_103 : decode b_Md_load 103 = .ok (.aload_n 0, 1) := by decide +kernel
theorem d_Md_load_104 : decode b_Md_load 104 = .ok (.getfield 28, 3) := by decide +kernel
theorem d_Md_load_107 : decode b_Md_load 107 = .ok (.iload 10, 2) := by decide +kernel
theorem d_Md_load_109 : decode b_Md_load 109 = .ok (.laload, 1) := by decide +kernel
theorem d_Md_load_110 : decode b_Md_load 110 = .ok (.lload 6, 2) := by decide +kernel
theorem d_Md_load_112 : decode b_Md_load 112 = .ok (.lcmp, 1) := by decide +kernel
theorem d_Md_load_113 : decode b_Md_load 113 = .ok (.ifCond .ge 12, 3) := by decide +kernel
theorem d_Md_load_116 : decode b_Md_load 116 = .ok (.aload_n 0, 1) := by decide +kernel
theorem d_Md_load_117 : decode b_Md_load 117 = .ok (.getfield 28, 3) := by decide +kernel
theorem d_Md_load_120 : decode b_Md_load 120 = .ok (.iload 10, 2) := by decide +kernel
theorem d_Md_load_122 : decode b_Md_load 122 = .ok (.laload, 1) := by decide +kernel
theorem d_Md_load_123 : decode b_Md_load 123 = .ok (.lstore 6, 2) := by decide +kernel
theorem d_Md_load_125 : decode b_Md_load 125 = .ok (.aload_n 0, 1) := by decide +kernel
theorem d_Md_load_126 : decode b_Md_load 126 = .ok (.getfield 32, 3) := by decide +kernel
theorem d_Md_load_129 : decode b_Md_load 129 = .ok (.iload 10, 2) := by decide +kernel
theorem d_Md_load_131 : decode b_Md_load 131 = .ok (.laload, 1) := by decide +kernel
theorem d_Md_load_132 : decode b_Md_load 132 = .ok (.lload 8, 2) := by decide +kernel
theorem d_Md_load_134 : decode b_Md_load 134 = .ok (.lcmp, 1) := by decide +kernel
theorem d_Md_load_135 : decode b_Md_load 135 = .ok (.ifCond .le 12, 3) := by decide +kernel
theorem d_Md_load_138 : decode b_Md_load 138 = .ok (.aload_n 0, 1) := by decide +kernel
theorem d_Md_load_139 : decode b_Md_load 139 = .ok (.getfield 32, 3) := by decide +kernel
theorem d_Md_load_142 : decode b_Md_load 142 = .ok (.iload 10, 2) := by decide +kernel
theorem d_Md_load_144 : decode b_Md_load 144 = .ok (.laload, 1) := by decide +kernel
theorem d_Md_load_145 : decode b_Md_load 145 = .ok (.lstore 8, 2) := by decide +kernel
theorem d_Md_load_147 : decode b_Md_load 147 = .ok (.iinc 10 1, 3) := by decide +kernel
theorem d_Md_load_150 : decode b_Md_load 150 = .ok (.goto (-54), 3) := by decide +kernel
theorem d_Md_load_153 : decode b_Md_load 153 = .ok (.aload_n 0, 1) := by decide +kernel
theorem d_Md_load_154 : decode b_Md_load 154 = .ok (.aload_n 0, 1) := by decide +kernel
theorem d_Md_load_155 : decode b_Md_load 155 = .ok (.getfield 13, 3) := by decide +kernel
theorem d_Md_load_158 : decode b_Md_load 158 = .ok (.iload_n 1, 1) := by decide +kernel
theorem d_Md_load_159 : decode b_Md_load 159 = .ok (.iaload, 1) := by decide +kernel
theorem d_Md_load_160 : decode b_Md_load 160 = .ok (.iload 5, 2) := by decide +kernel
theorem d_Md_load_162 : decode b_Md_load 162 = .ok (.lload 6, 2) := by decide +kernel
theorem d_Md_load_164 : decode b_Md_load 164 = .ok (.lload 8, 2) := by decide +kernel
theorem d_Md_load_166 : decode b_Md_load 166 = .ok (.invokevirtual 83, 3) := by decide +kernel
theorem d_Md_load_169 : decode b_Md_load 169 = .ok (.return_, 1) := by decide +kernel
