theorem d_Lw_add_0 : decode b_Lw_add 0 = .ok (.aload 6, 2) := by decide +kernel
theorem d_Lw_add_2 : decode b_Lw_add 2 = .ok (.iconst 0, 1) := by decide +kernel
theorem d_Lw_add_3 : decode b_Lw_add 3 = .ok (.aload_n 0, 1) := by decide +kernel
theorem d_Lw_add_4 : decode b_Lw_add 4 = .ok (.iload_n 1, 1) := by decide +kernel
theorem d_Lw_add_5 : decode b_Lw_add 5 = .ok (.iload_n 2, 1) := by decide +kernel
theorem d_Lw_add_6 : decode b_Lw_add 6 = .ok (.iload_n 3, 1) := by decide +kernel
theorem d_Lw_add_7 : decode b_Lw_add 7 = .ok (.iload 4, 2) := by decide +kernel
theorem d_Lw_add_9 : decode b_Lw_add 9 = .ok (.iload 5, 2) := by decide +kernel
theorem d_Lw_add_11 : decode b_Lw_add 11 = .ok (.invokevirtual 7, 3) := by decide +kernel
theorem d_Lw_add_14 : decode b_Lw_add 14 = .ok (.i2l, 1) := by decide +kernel
theorem d_Lw_add_15 : decode b_Lw_add 15 = .ok (.lastore, 1) := by decide +kernel
theorem d_Lw_add_16 : decode b_Lw_add 16 = .ok (.goto 11, 3) := by decide +kernel
theorem d_Lw_add_19 : decode b_Lw_add 19 = .ok (.astore 7, 2) := by decide +kernel
theorem d_Lw_add_21 : decode b_Lw_add 21 = .ok (.iconst 1, 1) := by decide +kernel
theorem d_Lw_add_22 : decode b_Lw_add 22 = .ok (.ireturn, 1) := by decide +kernel
theorem d_Lw_add_23 : decode b_Lw_add 23 = .ok (.astore 7, 2) := by decide +kernel
theorem d_Lw_add_25 : decode b_Lw_add 25 = .ok (.iconst 2, 1) := by decide +kernel
theorem d_Lw_add_26 : decode b_Lw_add 26 = .ok (.ireturn, 1) := by decide +kernel
theorem d_Lw_add_27 : decode b_Lw_add 27 = .ok (.iconst 0, 1) := by decide +kernel
theorem d_Lw_add_28 : decode b_Lw_add 28 = .ok (.ireturn, 1) := by decide +kernel
theorem d_Lw_put_0 : decode b_Lw_put 0 = .ok (.aload_n 0, 1) := by decide +kernel
theorem d_Lw_put_1 : decode b_Lw_put 1 = .ok (.iload_n 1, 1) := by decide +kernel
theorem d_Lw_put_2 : decode b_Lw_put 2 = .ok (.iload_n 2, 1) := by decide +kernel
theorem d_Lw_put_3 : decode b_Lw_put 3 = .ok (.iload_n 3, 1) := by decide +kernel
theorem d_Lw_put_4 : decode b_Lw_put 4 = .ok (.iload 4, 2) := by decide +kernel
theorem d_Lw_put_6 : decode b_Lw_put 6 = .ok (.iload 5, 2) := by decide +kernel
theorem d_Lw_put_8 : decode b_Lw_put 8 = .ok (.iload 6, 2) := by decide +kernel
theorem d_Lw_put_10 : decode b_Lw_put 10 = .ok (.invokevirtual 17, 3) := by decide +kernel
theorem d_Lw_put_13 : decode b_Lw_put 13 = .ok (.goto 11, 3) := by decide +kernel
theorem d_Lw_put_16 : decode b_Lw_put 16 = .ok (.astore 7, 2) := by decide +kernel
theorem d_Lw_put_18 : decode b_Lw_put 18 = .ok (.iconst 1, 1) := by decide +kernel
theorem d_Lw_put_19 : decode b_Lw_put 19 = .ok (.ireturn, 1) := by decide +kernel
theorem d_Lw_put_20 : decode b_Lw_put 20 = .ok (.astore 7, 2) := by decide +kernel
theorem d_Lw_put_22 : decode b_Lw_put 22 = .ok (.iconst 2, 1) := by decide +kernel
theorem d_Lw_put_23 : decode b_Lw_put 23 = .ok (.ireturn, 1) := by decide +kernel
theorem d_Lw_put_24 : decode b_Lw_put 24 = .ok (.iconst 0, 1) := by decide +kernel
theorem d_Lw_put_25 : decode b_Lw_put 25 = .ok (.ireturn, 1) := by decide +kernel
theorem d_Lw_cut_0 : decode b_Lw_cut 0 = .ok (.aload_n 0, 1) := by decide +kernel
theorem d_Lw_cut_1 : decode b_Lw_cut 1 = .ok (.iload_n 1, 1) := by decide +kernel
theorem d_Lw_cut_2 : decode b_Lw_cut 2 = .ok (.invokevirtual 23, 3) := by decide +kernel
theorem d_Lw_cut_5 : decode b_Lw_cut 5 = .ok (.goto 6, 3) := by decide +kernel
theorem d_Lw_cut_8 : decode b_Lw_cut 8 = .ok (.astore_n 2, 1) := by decide +kernel
theorem d_Lw_cut_9 : decode b_Lw_cut 9 = .ok (.iconst 1, 1) := by decide +kernel
theorem d_Lw_cut_10 : decode b_Lw_cut 10 = .ok (.ireturn, 1) := by decide +kernel
theorem d_Lw_cut_11 : decode b_Lw_cut 11 = .ok (.iconst 0, 1) := by decide +kernel
theorem d_Lw_cut_12 : decode b_Lw_cut 12 = .ok (.ireturn, 1) := by decide +kernel
theorem d_Lw_check_0 : decode b_Lw_check 0 = .ok (.aload_n 1, 1) := by decide +kernel
theorem d_Lw_check_1 : decode b_Lw_check 1 = .ok (.iconst 0, 1) := by decide +kernel
theorem d_Lw_check_2 : decode b_Lw_check 2 = .ok (.aload_n 0, 1) := by decide +kernel
theorem d_Lw_check_3 : decode b_Lw_check 3 = .ok (.invokevirtual 27, 3) := by decide +kernel
theorem d_Lw_check_6 : decode b_Lw_check 6 = .ok (.i2l, 1) := by decide +kernel
theorem d_Lw_check_7 : decode b_Lw_check 7 = .ok (.lastore, 1) := by decide +kernel
theorem d_Lw_check_8 : decode b_Lw_check 8 = .ok (.goto 9, 3) := by decide +kernel
theorem d_Lw_check_11 : decode b_Lw_check 11 = .ok (.astore_n 2, 1) := by decide +kernel
theorem d_Lw_check_12 : decode b_Lw_check 12 = .ok (.iconst 1, 1) := by decide +kernel
theorem d_Lw_check_13 : decode b_Lw_check 13 = .ok (.ireturn, 1) := by decide +kernel
theorem d_Lw_check_14 : decode b_Lw_check 14 = .ok (.astore_n 2, 1) := by decide +kernel
theorem d_Lw_check_15 : decode b_Lw_check 15 = .ok (.iconst 2, 1) := by decide +kernel
theorem d_Lw_check_16 : decode b_Lw_check 16 = .ok (.ireturn, 1) := by decide +kernel
theorem d_Lw_check_17 : decode b_Lw_check 17 = .ok (.iconst 0, 1) := by decide +kernel
theorem d_Lw_check_18 : decode b_Lw_check 18 = .ok (.ireturn, 1) := by decide +kernel
theorem d_Lw_run_0 : decode b_Lw_run 0 = .ok (.aload_n 3, 1) := by decide +kernel
theorem d_Lw_run_1 : decode b_Lw_run 1 = .ok (.iconst 0, 1) := by decide +kernel
theorem d_Lw_run_2 : decode b_Lw_run 2 = .ok (.aload_n 0, 1) := by decide +kernel
theorem d_Lw_run_3 : decode b_Lw_run 3 = .ok (.lload_n 1, 1) := by decide +kernel
theorem d_Lw_run_4 : decode b_Lw_run 4 = .ok (.invokevirtual 33, 3) := by decide +kernel
theorem d_Lw_run_7 : decode b_Lw_run 7 = .ok (.lastore, 1) := by decide +kernel
theorem d_Lw_run_8 : decode b_Lw_run 8 = .ok (.goto 7, 3) := by decide +kernel
theorem d_Lw_run_11 : decode b_Lw_run 11 = .ok (.astore 4, 2) := by decide +kernel
theorem d_Lw_run_13 : decode b_Lw_run 13 = .ok (.iconst 1, 1) := by decide +kernel
theorem d_Lw_run_14 : decode b_Lw_run 14 = .ok (.ireturn, 1) := by decide +kernel
theorem d_Lw_run_15 : decode b_Lw_run 15 = .ok (.iconst 0, 1) := by decide +kernel
theorem d_Lw_run_16 : decode b_Lw_run 16 = .ok (.ireturn, 1) := by decide +kernel
theorem d_Lw_row_0 : decode b_Lw_row 0 = .ok (.aload_n 3, 1) := by decide +kernel
theorem d_Lw_row_1 : decode b_Lw_row 1 = .ok (.iconst 0, 1) := by decide +kernel
theorem d_Lw_row_2 : decode b_Lw_row 2 = .ok (.aload_n 0, 1) := by decide +kernel
theorem d_Lw_row_3 : decode b_Lw_row 3 = .ok (.iload_n 1, 1) := by decide +kernel
theorem d_Lw_row_4 : decode b_Lw_row 4 = .ok (.iload_n 2, 1) := by decide +kernel
theorem d_Lw_row_5 : decode b_Lw_row 5 = .ok (.invokevirtual 37, 3) := by decide +kernel
theorem d_Lw_row_8 : decode b_Lw_row 8 = .ok (.lastore, 1) := by decide +kernel
theorem d_Lw_row_9 : decode b_Lw_row 9 = .ok (.goto 7, 3) := by decide +kernel
theorem d_Lw_row_12 : decode b_Lw_row 12 = .ok (.astore 4, 2) := by decide +kernel
theorem d_Lw_row_14 : decode b_Lw_row 14 = .ok (.iconst 1, 1) := by decide +kernel
theorem d_Lw_row_15 : decode b_Lw_row 15 = .ok (.ireturn, 1) := by decide +kernel
theorem d_Lw_row_16 : decode b_Lw_row 16 = .ok (.iconst 0, 1) := by decide +kernel
theorem d_Lw_row_17 : decode b_Lw_row 17 = .ok (.ireturn, 1) := by decide +kernel
theorem d_Lw_fill_0 : decode b_Lw_fill 0 = .ok (.aload_n 0, 1) := by decide +kernel
theorem d_Lw_fill_1 : decode b_Lw_fill 1 = .ok (.iload_n 1, 1) := by decide +kernel
theorem d_Lw_fill_2 : decode b_Lw_fill 2 = .ok (.iload_n 2, 1) := by decide +kernel
theorem d_Lw_fill_3 : decode b_Lw_fill 3 = .ok (.lload_n 3, 1) := by decide +kernel
theorem d_Lw_fill_4 : decode b_Lw_fill 4 = .ok (.invokevirtual 41, 3) := by decide +kernel
theorem d_Lw_fill_7 : decode b_Lw_fill 7 = .ok (.goto 7, 3) := by decide +kernel
theorem d_Lw_fill_10 : decode b_Lw_fill 10 = .ok (.astore 5, 2) := by decide +kernel
theorem d_Lw_fill_12 : decode b_Lw_fill 12 = .ok (.iconst 1, 1) := by decide +kernel
theorem d_Lw_fill_13 : decode b_Lw_fill 13 = .ok (.ireturn, 1) := by decide +kernel
theorem d_Lw_fill_14 : decode b_Lw_fill 14 = .ok (.iconst 0, 1) := by decide +kernel
theorem d_Lw_fill_15 : decode b_Lw_fill 15 = .ok (.ireturn, 1) := by decide +kernel
theorem d_Lw_outcome_0 : decode b_Lw_outcome 0 = .ok (.aload_n 2, 1) := by decide +kernel
theorem d_Lw_outcome_1 : decode b_Lw_outcome 1 = .ok (.iconst 0, 1) := by decide +kernel
theorem d_Lw_outcome_2 : decode b_Lw_outcome 2 = .ok (.aload_n 0, 1) := by decide +kernel
theorem d_Lw_outcome_3 : decode b_Lw_outcome 3 = .ok (.iload_n 1, 1) := by decide +kernel
theorem d_Lw_outcome_4 : decode b_Lw_outcome 4 = .ok (.invokevirtual 45, 3) := by decide +kernel
theorem d_Lw_outcome_7 : decode b_Lw_outcome 7 = .ok (.lastore, 1) := by decide +kernel
theorem d_Lw_outcome_8 : decode b_Lw_outcome 8 = .ok (.goto 6, 3) := by decide +kernel
theorem d_Lw_outcome_11 : decode b_Lw_outcome 11 = .ok (.astore_n 3, 1) := by decide +kernel
theorem d_Lw_outcome_12 : decode b_Lw_outcome 12 = .ok (.iconst 1, 1) := by decide +kernel
theorem d_Lw_outcome_13 : decode b_Lw_outcome 13 = .ok (.ireturn, 1) := by decide +kernel
theorem d_Lw_outcome_14 : decode b_Lw_outcome 14 = .ok (.iconst 0, 1) := by decide +kernel
theorem d_Lw_outcome_15 : decode b_Lw_outcome 15 = .ok (.ireturn, 1) := by decide +kernel
theorem d_Lw_law_0 : decode b_Lw_law 0 = .ok (.new 8, 3) := by decide +kernel
theorem d_Lw_law_3 : decode b_Lw_law 3 = .ok (.dup, 1) := by decide +kernel
theorem d_Lw_law_4 : decode b_Lw_law 4 = .ok (.invokespecial 49, 3) := by decide +kernel
theorem d_Lw_law_7 : decode b_Lw_law 7 = .ok (.astore_n 1, 1) := by decide +kernel
theorem d_Lw_law_8 : decode b_Lw_law 8 = .ok (.new 50, 3) := by decide +kernel
theorem d_Lw_law_11 : decode b_Lw_law 11 = .ok (.dup, 1) := by decide +kernel
theorem d_Lw_law_12 : decode b_Lw_law 12 = .ok (.invokespecial 52, 3) := by decide +kernel
theorem d_Lw_law_15 : decode b_Lw_law 15 = .ok (.astore_n 2, 1) := by decide +kernel
theorem d_Lw_law_16 : decode b_Lw_law 16 = .ok (.iconst 1, 1) := by decide +kernel
theorem d_Lw_law_17 : decode b_Lw_law 17 = .ok (.newarray .long, 2) := by decide +kernel
theorem d_Lw_law_19 : decode b_Lw_law 19 = .ok (.astore_n 3, 1) := by decide +kernel
theorem d_Lw_law_20 : decode b_Lw_law 20 = .ok (.iconst 0, 1) := by decide +kernel
theorem d_Lw_law_21 : decode b_Lw_law 21 = .ok (.istore 4, 2) := by decide +kernel
theorem d_Lw_law_23 : decode b_Lw_law 23 = .ok (.iload 4, 2) := by decide +kernel
theorem d_Lw_law_25 : decode b_Lw_law 25 = .ok (.aload_n 0, 1) := by decide +kernel
theorem d_Lw_law_26 : decode b_Lw_law 26 = .ok (.arraylength, 1) := by decide +kernel
theorem d_Lw_law_27 : decode b_Lw_law 27 = .ok (.bipush 7, 2) := by decide +kernel
theorem d_Lw_law_29 : decode b_Lw_law 29 = .ok (.isub, 1) := by decide +kernel
theorem d_Lw_law_30 : decode b_Lw_law 30 = .ok (.if_icmp .gt 692, 3) := by decide +kernel
theorem d_Lw_law_33 : decode b_Lw_law 33 = .ok (.aload_n 0, 1) := by decide +kernel
theorem d_Lw_law_34 : decode b_Lw_law 34 = .ok (.iload 4, 2) := by decide +kernel
theorem d_Lw_law_36 : decode b_Lw_law 36 = .ok (.iaload, 1) := by decide +kernel
theorem d_Lw_law_37 : decode b_Lw_law 37 = .ok (.bipush 15, 2) := by decide +kernel
theorem d_Lw_law_39 : decode b_Lw_law 39 = .ok (.iand, 1) := by decide +kernel
theorem d_Lw_law_40 : decode b_Lw_law 40 = .ok (.tableswitch 676 0 8 #[52, 156, 254, 290, 334, 421, 488, 580, 651], 52) := by decide +kernel
theorem d_Lw_law_92 : decode b_Lw_law 92 = .ok (.aload_n 1, 1) := by decide +kernel
theorem d_Lw_law_93 : decode b_Lw_law 93 = .ok (.aload_n 0, 1) := by decide +kernel
theorem d_Lw_law_94 : decode b_Lw_law 94 = .ok (.iload 4, 2) := by decide +kernel
theorem d_Lw_law_96 : decode b_Lw_law 96 = .ok (.iconst 1, 1) := by decide +kernel
theorem d_Lw_law_97 : decode b_Lw_law 97 = .ok (.iadd, 1) := by decide +kernel
theorem d_Lw_law_98 : decode b_Lw_law 98 = .ok (.iaload, 1) := by decide +kernel
theorem d_Lw_law_99 : decode b_Lw_law 99 = .ok (.aload_n 0, 1) := by decide +kernel
theorem d_Lw_law_100 : decode b_Lw_law 100 = .ok (.iload 4, 2) := by decide +kernel
theorem d_Lw_law_102 : decode b_Lw_law 102 = .ok (.iconst 2, 1) := by decide +kernel
theorem d_Lw_law_103 : decode b_Lw_law 103 = .ok (.iadd, 1) := by decide +kernel
theorem d_Lw_law_104 : decode b_Lw_law 104 = .ok (.iaload, 1) := by decide +kernel
theorem d_Lw_law_105 : decode b_Lw_law 105 = .ok (.aload_n 0, 1) := by decide +kernel
theorem d_Lw_law_106 : decode b_Lw_law 106 = .ok (.iload 4, 2) := by decide +kernel
theorem d_Lw_law_108 : decode b_Lw_law 108 = .ok (.iconst 3, 1) := by decide +kernel
theorem d_Lw_law_109 : decode b_Lw_law 109 = .ok (.iadd, 1) := by decide +kernel
theorem d_Lw_law_110 : decode b_Lw_law 110 = .ok (.iaload, 1) := by decide +kernel
theorem d_Lw_law_111 : decode b_Lw_law 111 = .ok (.aload_n 0, 1) := by decide +kernel
theorem d_Lw_law_112 : decode b_Lw_law 112 = .ok (.iload 4, 2) := by decide +kernel
theorem d_Lw_law_114 : decode b_Lw_law 114 = .ok (.iconst 4, 1) := by decide +kernel
theorem d_Lw_law_115 : decode b_Lw_law 115 = .ok (.iadd, 1) := by decide +kernel
theorem d_Lw_law_116 : decode b_Lw_law 116 = .ok (.iaload, 1) := by decide +kernel
theorem d_Lw_law_117 : decode b_Lw_law 117 = .ok (.aload_n 0, 1) := by decide +kernel
theorem d_Lw_law_118 : decode b_Lw_law 118 = .ok (.iload 4, 2) := by decide +kernel
theorem d_Lw_law_120 : decode b_Lw_law 120 = .ok (.iconst 5, 1) := by decide +kernel
theorem d_Lw_law_121 : decode b_Lw_law 121 = .ok (.iadd, 1) := by decide +kernel
theorem d_Lw_law_122 : decode b_Lw_law 122 = .ok (.iaload, 1) := by decide +kernel
theorem d_Lw_law_123 : decode b_Lw_law 123 = .ok (.aload_n 3, 1) := by decide +kernel
theorem d_Lw_law_124 : decode b_Lw_law 124 = .ok (.invokestatic 53, 3) := by decide +kernel
theorem d_Lw_law_127 : decode b_Lw_law 127 = .ok (.istore 5, 2) := by decide +kernel
theorem d_Lw_law_129 : decode b_Lw_law 129 = .ok (.aload_n 2, 1) := by decide +kernel
theorem d_Lw_law_130 : decode b_Lw_law 130 = .ok (.aload_n 0, 1) := by decide +kernel
theorem d_Lw_law_131 : decode b_Lw_law 131 = .ok (.iload 4, 2) := by decide +kernel
theorem d_Lw_law_133 : decode b_Lw_law 133 = .ok (.iconst 1, 1) := by decide +kernel
theorem d_Lw_law_134 : decode b_Lw_law 134 = .ok (.iadd, 1) := by decide +kernel
theorem d_Lw_law_135 : decode b_Lw_law 135 = .ok (.iaload, 1) := by decide +kernel
theorem d_Lw_law_136 : decode b_Lw_law 136 = .ok (.aload_n 0, 1) := by decide +kernel
theorem d_Lw_law_137 : decode b_Lw_law 137 = .ok (.iload 4, 2) := by decide +kernel
theorem d_Lw_law_139 : decode b_Lw_law 139 = .ok (.iconst 2, 1) := by decide +kernel
theorem d_Lw_law_140 : decode b_Lw_law 140 = .ok (.iadd, 1) := by decide +kernel
theorem d_Lw_law_141 : decode b_Lw_law 141 = .ok (.iaload, 1) := by decide +kernel
theorem d_Lw_law_142 : decode b_Lw_law 142 = .ok (.aload_n 0, 1) := by decide +kernel
theorem d_Lw_law_143 : decode b_Lw_law 143 = .ok (.iload 4, 2) := by decide +kernel
theorem d_Lw_law_145 : decode b_Lw_law 145 = .ok (.iconst 3, 1) := by decide +kernel
theorem d_Lw_law_146 : decode b_Lw_law 146 = .ok (.iadd, 1) := by decide +kernel
theorem d_Lw_law_147 : decode b_Lw_law 147 = .ok (.iaload, 1) := by decide +kernel
theorem d_Lw_law_148 : decode b_Lw_law 148 = .ok (.aload_n 0, 1) := by decide +kernel
theorem d_Lw_law_149 : decode b_Lw_law 149 = .ok (.iload 4, 2) := by decide +kernel
theorem d_Lw_law_151 : decode b_Lw_law 151 = .ok (.iconst 4, 1) := by decide +kernel
theorem d_Lw_law_152 : decode b_Lw_law 152 = .ok (.iadd, 1) := by decide +kernel
theorem d_Lw_law_153 : decode b_Lw_law 153 = .ok (.iaload, 1) := by decide +kernel
theorem d_Lw_law_154 : decode b_Lw_law 154 = .ok (.aload_n 0, 1) := by decide +kernel
theorem d_Lw_law_155 : decode b_Lw_law 155 = .ok (.iload 4, 2) := by decide +kernel
theorem d_Lw_law_157 : decode b_Lw_law 157 = .ok (.iconst 5, 1) := by decide +kernel
theorem d_Lw_law_158 : decode b_Lw_law 158 = .ok (.iadd, 1) := by decide +kernel
theorem d_Lw_law_159 : decode b_Lw_law 159 = .ok (.iaload, 1) := by decide +kernel
theorem d_Lw_law_160 : decode b_Lw_law 160 = .ok (.invokevirtual 58, 3) := by decide +kernel
theorem d_Lw_law_163 : decode b_Lw_law 163 = .ok (.istore 6, 2) := by decide +kernel
theorem d_Lw_law_165 : decode b_Lw_law 165 = .ok (.aload_n 2, 1) := by decide +kernel
theorem d_Lw_law_166 : decode b_Lw_law 166 = .ok (.invokevirtual 59, 3) := by decide +kernel
theorem d_Lw_law_169 : decode b_Lw_law 169 = .ok (.iload 5, 2) := by decide +kernel
theorem d_Lw_law_171 : decode b_Lw_law 171 = .ok (.if_icmp .eq 5, 3) := by decide +kernel
theorem d_Lw_law_174 : decode b_Lw_law 174 = .ok (.iconst 0, 1) := by decide +kernel
theorem d_Lw_law_175 : decode b_Lw_law 175 = .ok (.ireturn, 1) := by decide +kernel
theorem d_Lw_law_176 : decode b_Lw_law 176 = .ok (.iload 5, 2) := by decide +kernel
theorem d_Lw_law_178 : decode b_Lw_law 178 = .ok (.ifCond .ne 15, 3) := by decide +kernel
theorem d_Lw_law_181 : decode b_Lw_law 181 = .ok (.aload_n 3, 1) := by decide +kernel
theorem d_Lw_law_182 : decode b_Lw_law 182 = .ok (.iconst 0, 1) := by decide +kernel
theorem d_Lw_law_183 : decode b_Lw_law 183 = .ok (.laload, 1) := by decide +kernel
theorem d_Lw_law_184 : decode b_Lw_law 184 = .ok (.iload 6, 2) := by decide +kernel
theorem d_Lw_law_186 : decode b_Lw_law 186 = .ok (.i2l, 1) := by decide +kernel
theorem d_Lw_law_187 : decode b_Lw_law 187 = .ok (.lcmp, 1) := by decide +kernel
theorem d_Lw_law_188 : decode b_Lw_law 188 = .ok (.ifCond .eq 5, 3) := by decide +kernel
theorem d_Lw_law_191 : decode b_Lw_law 191 = .ok (.iconst 0, 1) := by decide +kernel
theorem d_Lw_law_192 : decode b_Lw_law 192 = .ok (.ireturn, 1) := by decide +kernel
theorem d_Lw_law_193 : decode b_Lw_law 193 = .ok (.goto 523, 3) := by decide +kernel
theorem d_Lw_law_196 : decode b_Lw_law 196 = .ok (.aload_n 1, 1) := by decide +kernel
theorem d_Lw_law_197 : decode b_Lw_law 197 = .ok (.aload_n 0, 1) := by decide +kernel
theorem d_Lw_law_198 : decode b_Lw_law 198 = .ok (.iload 4, 2) := by decide +kernel
theorem d_Lw_law_200 : decode b_Lw_law 200 = .ok (.iconst 1, 1) := by decide +kernel
theorem d_Lw_law_201 : decode b_Lw_law 201 = .ok (.iadd, 1) := by decide +kernel
theorem d_Lw_law_202 : decode b_Lw_law 202 = .ok (.iaload, 1) := by decide +kernel
theorem d_Lw_law_203 : decode b_Lw_law 203 = .ok (.aload_n 0, 1) := by decide +kernel
theorem d_Lw_law_204 : decode b_Lw_law 204 = .ok (.iload 4, 2) := by decide +kernel
theorem d_Lw_law_206 : decode b_Lw_law 206 = .ok (.iconst 2, 1) := by decide +kernel
theorem d_Lw_law_207 : decode b_Lw_law 207 = .ok (.iadd, 1) := by decide +kernel
theorem d_Lw_law_208 : decode b_Lw_law 208 = .ok (.iaload, 1) := by decide +kernel
theorem d_Lw_law_209 : decode b_Lw_law 209 = .ok (.aload_n 0, 1) := by decide +kernel
theorem d_Lw_law_210 : decode b_Lw_law 210 = .ok (.iload 4, 2) := by decide +kernel
theorem d_Lw_law_212 : decode b_Lw_law 212 = .ok (.iconst 3, 1) := by decide +kernel
theorem d_Lw_law_213 : decode b_Lw_law 213 = .ok (.iadd, 1) := by decide +kernel
theorem d_Lw_law_214 : decode b_Lw_law 214 = .ok (.iaload, 1) := by decide +kernel
theorem d_Lw_law_215 : decode b_Lw_law 215 = .ok (.aload_n 0, 1) := by decide +kernel
theorem d_Lw_law_216 : decode b_Lw_law 216 = .ok (.iload 4, 2) := by decide +kernel
theorem d_Lw_law_218 : decode b_Lw_law 218 = .ok (.iconst 4, 1) := by decide +kernel
theorem d_Lw_law_219 : decode b_Lw_law 219 = .ok (.iadd, 1) := by decide +kernel
theorem d_Lw_law_220 : decode b_Lw_law 220 = .ok (.iaload, 1) := by decide +kernel
theorem d_Lw_law_221 : decode b_Lw_law 221 = .ok (.aload_n 0, 1) := by decide +kernel
theorem d_Lw_law_222 : decode b_Lw_law 222 = .ok (.iload 4, 2) := by decide +kernel
theorem d_Lw_law_224 : decode b_Lw_law 224 = .ok (.iconst 5, 1) := by decide +kernel
theorem d_Lw_law_225 : decode b_Lw_law 225 = .ok (.iadd, 1) := by decide +kernel
theorem d_Lw_law_226 : decode b_Lw_law 226 = .ok (.iaload, 1) := by decide +kernel
theorem d_Lw_law_227 : decode b_Lw_law 227 = .ok (.aload_n 0, 1) := by decide +kernel
theorem d_Lw_law_228 : decode b_Lw_law 228 = .ok (.iload 4, 2) := by decide +kernel
theorem d_Lw_law_230 : decode b_Lw_law 230 = .ok (.bipush 6, 2) := by decide +kernel
theorem d_Lw_law_232 : decode b_Lw_law 232 = .ok (.iadd, 1) := by decide +kernel
theorem d_Lw_law_233 : decode b_Lw_law 233 = .ok (.iaload, 1) := by decide +kernel
theorem d_Lw_law_234 : decode b_Lw_law 234 = .ok (.invokestatic 62, 3) := by decide +kernel
theorem d_Lw_law_237 : decode b_Lw_law 237 = .ok (.istore 5, 2) := by decide +kernel
theorem d_Lw_law_239 : decode b_Lw_law 239 = .ok (.aload_n 2, 1) := by decide +kernel
theorem d_Lw_law_240 : decode b_Lw_law 240 = .ok (.aload_n 0, 1) := by decide +kernel
theorem d_Lw_law_241 : decode b_Lw_law 241 = .ok (.iload 4, 2) := by decide +kernel
theorem d_Lw_law_243 : decode b_Lw_law 243 = .ok (.iconst 1, 1) := by decide +kernel
theorem d_Lw_law_244 : decode b_Lw_law 244 = .ok (.iadd, 1) := by decide +kernel
theorem d_Lw_law_245 : decode b_Lw_law 245 = .ok (.iaload, 1) := by decide +kernel
theorem d_Lw_law_246 : decode b_Lw_law 246 = .ok (.aload_n 0, 1) := by decide +kernel
theorem d_Lw_law_247 : decode b_Lw_law 247 = .ok (.iload 4, 2) := by decide +kernel
theorem d_Lw_law_249 : decode b_Lw_law 249 = .ok (.iconst 2, 1) := by decide +kernel
theorem d_Lw_law_250 : decode b_Lw_law 250 = .ok (.iadd, 1) := by decide +kernel
theorem d_Lw_law_251 : decode b_Lw_law 251 = .ok (.iaload, 1) := by decide +kernel
theorem d_Lw_law_252 : decode b_Lw_law 252 = .ok (.aload_n 0, 1) := by decide +kernel
theorem d_Lw_law_253 : decode b_Lw_law 253 = .ok (.iload 4, 2) := by decide +kernel
theorem d_Lw_law_255 : decode b_Lw_law 255 = .ok (.iconst 3, 1) := by decide +kernel
theorem d_Lw_law_256 : decode b_Lw_law 256 = .ok (.iadd, 1) := by decide +kernel
theorem d_Lw_law_257 : decode b_Lw_law 257 = .ok (.iaload, 1) := by decide +kernel
theorem d_Lw_law_258 : decode b_Lw_law 258 = .ok (.aload_n 0, 1) := by decide +kernel
theorem d_Lw_law_259 : decode b_Lw_law 259 = .ok (.iload 4, 2) := by decide +kernel
theorem d_Lw_law_261 : decode b_Lw_law 261 = .ok (.iconst 4, 1) := by decide +kernel
theorem d_Lw_law_262 : decode b_Lw_law 262 = .ok (.iadd, 1) := by decide +kernel
theorem d_Lw_law_263 : decode b_Lw_law 263 = .ok (.iaload, 1) := by decide +kernel
theorem d_Lw_law_264 : decode b_Lw_law 264 = .ok (.aload_n 0, 1) := by decide +kernel
theorem d_Lw_law_265 : decode b_Lw_law 265 = .ok (.iload 4, 2) := by decide +kernel
theorem d_Lw_law_267 : decode b_Lw_law 267 = .ok (.iconst 5, 1) := by decide +kernel
theorem d_Lw_law_268 : decode b_Lw_law 268 = .ok (.iadd, 1) := by decide +kernel
theorem d_Lw_law_269 : decode b_Lw_law 269 = .ok (.iaload, 1) := by decide +kernel
theorem d_Lw_law_270 : decode b_Lw_law 270 = .ok (.aload_n 0, 1) := by decide +kernel
theorem d_Lw_law_271 : decode b_Lw_law 271 = .ok (.iload 4, 2) := by decide +kernel
theorem d_Lw_law_273 : decode b_Lw_law 273 = .ok (.bipush 6, 2) := by decide +kernel
theorem d_Lw_law_275 : decode b_Lw_law 275 = .ok (.iadd, 1) := by decide +kernel
theorem d_Lw_law_276 : decode b_Lw_law 276 = .ok (.iaload, 1) := by decide +kernel
theorem d_Lw_law_277 : decode b_Lw_law 277 = .ok (.invokevirtual 65, 3) := by decide +kernel
theorem d_Lw_law_280 : decode b_Lw_law 280 = .ok (.aload_n 2, 1) := by decide +kernel
theorem d_Lw_law_281 : decode b_Lw_law 281 = .ok (.invokevirtual 59, 3) := by decide +kernel
theorem d_Lw_law_284 : decode b_Lw_law 284 = .ok (.iload 5, 2) := by decide +kernel
theorem d_Lw_law_286 : decode b_Lw_law 286 = .ok (.if_icmp .eq 5, 3) := by decide +kernel
theorem d_Lw_law_289 : decode b_Lw_law 289 = .ok (.iconst 0, 1) := by decide +kernel
theorem d_Lw_law_290 : decode b_Lw_law 290 = .ok (.ireturn, 1) := by decide +kernel
theorem d_Lw_law_291 : decode b_Lw_law 291 = .ok (.goto 425, 3) := by decide +kernel
theorem d_Lw_law_294 : decode b_Lw_law 294 = .ok (.aload_n 1, 1) := by decide +kernel
theorem d_Lw_law_295 : decode b_Lw_law 295 = .ok (.aload_n 0, 1) := by decide +kernel
theorem d_Lw_law_296 : decode b_Lw_law 296 = .ok (.iload 4, 2) := by decide +kernel
theorem d_Lw_law_298 : decode b_Lw_law 298 = .ok (.iconst 1, 1) := by decide +kernel
theorem d_Lw_law_299 : decode b_Lw_law 299 = .ok (.iadd, 1) := by decide +kernel
theorem d_Lw_law_300 : decode b_Lw_law 300 = .ok (.iaload, 1) := by decide +kernel
theorem d_Lw_law_301 : decode b_Lw_law 301 = .ok (.invokestatic 66, 3) := by decide +kernel
theorem d_Lw_law_304 : decode b_Lw_law 304 = .ok (.istore 5, 2) := by decide +kernel
theorem d_Lw_law_306 : decode b_Lw_law 306 = .ok (.aload_n 2, 1) := by decide +kernel
theorem d_Lw_law_307 : decode b_Lw_law 307 = .ok (.aload_n 0, 1) := by decide +kernel
theorem d_Lw_law_308 : decode b_Lw_law 308 = .ok (.iload 4, 2) := by decide +kernel
theorem d_Lw_law_310 : decode b_Lw_law 310 = .ok (.iconst 1, 1) := by decide +kernel
theorem d_Lw_law_311 : decode b_Lw_law 311 = .ok (.iadd, 1) := by decide +kernel
theorem d_Lw_law_312 : decode b_Lw_law 312 = .ok (.iaload, 1) := by decide +kernel
theorem d_Lw_law_313 : decode b_Lw_law 313 = .ok (.invokevirtual 69, 3) := by decide +kernel
theorem d_Lw_law_316 : decode b_Lw_law 316 = .ok (.aload_n 2, 1) := by decide +kernel
theorem d_Lw_law_317 : decode b_Lw_law 317 = .ok (.invokevirtual 59, 3) := by decide +kernel
theorem d_Lw_law_320 : decode b_Lw_law 320 = .ok (.iload 5, 2) := by decide +kernel
theorem d_Lw_law_322 : decode b_Lw_law 322 = .ok (.if_icmp .eq 5, 3) := by decide +kernel
theorem d_Lw_law_325 : decode b_Lw_law 325 = .ok (.iconst 0, 1) := by decide +kernel
theorem d_Lw_law_326 : decode b_Lw_law 326 = .ok (.ireturn, 1) := by decide +kernel
theorem d_Lw_law_327 : decode b_Lw_law 327 = .ok (.goto 389, 3) := by decide +kernel
theorem d_Lw_law_330 : decode b_Lw_law 330 = .ok (.aload_n 1, 1) := by decide +kernel
theorem d_Lw_law_331 : decode b_Lw_law 331 = .ok (.aload_n 3, 1) := by decide +kernel
theorem d_Lw_law_332 : decode b_Lw_law 332 = .ok (.invokestatic 70, 3) := by decide +kernel
theorem d_Lw_law_335 : decode b_Lw_law 335 = .ok (.istore 5, 2) := by decide +kernel
theorem d_Lw_law_337 : decode b_Lw_law 337 = .ok (.aload_n 2, 1) := by decide +kernel
theorem d_Lw_law_338 : decode b_Lw_law 338 = .ok (.invokevirtual 73, 3) := by decide +kernel
theorem d_Lw_law_341 : decode b_Lw_law 341 = .ok (.istore 6, 2) := by decide +kernel
theorem d_Lw_law_343 : decode b_Lw_law 343 = .ok (.aload_n 2, 1) := by decide +kernel
theorem d_Lw_law_344 : decode b_Lw_law 344 = .ok (.invokevirtual 59, 3) := by decide +kernel
theorem d_Lw_law_347 : decode b_Lw_law 347 = .ok (.iload 5, 2) := by decide +kernel
theorem d_Lw_law_349 : decode b_Lw_law 349 = .ok (.if_icmp .eq 5, 3) := by decide +kernel
theorem d_Lw_law_352 : decode b_Lw_law 352 = .ok (.iconst 0, 1) := by decide +kernel
theorem d_Lw_law_353 : decode b_Lw_law 353 = .ok (.ireturn, 1) := by decide +kernel
theorem d_Lw_law_354 : decode b_Lw_law 354 = .ok (.iload 5, 2) := by decide +kernel
theorem d_Lw_law_356 : decode b_Lw_law 356 = .ok (.ifCond .ne 15, 3) := by decide +kernel
theorem d_Lw_law_359 : decode b_Lw_law 359 = .ok (.aload_n 3, 1) := by decide +kernel
theorem d_Lw_law_360 : decode b_Lw_law 360 = .ok (.iconst 0, 1) := by decide +kernel
theorem d_Lw_law_361 : decode b_Lw_law 361 = .ok (.laload, 1) := by decide +kernel
theorem d_Lw_law_362 : decode b_Lw_law 362 = .ok (.iload 6, 2) := by decide +kernel
theorem d_Lw_law_364 : decode b_Lw_law 364 = .ok (.i2l, 1) := by decide +kernel
theorem d_Lw_law_365 : decode b_Lw_law 365 = .ok (.lcmp, 1) := by decide +kernel
theorem d_Lw_law_366 : decode b_Lw_law 366 = .ok (.ifCond .eq 5, 3) := by decide +kernel
theorem d_Lw_law_369 : decode b_Lw_law 369 = .ok (.iconst 0, 1) := by decide +kernel
theorem d_Lw_law_370 : decode b_Lw_law 370 = .ok (.ireturn, 1) := by decide +kernel
theorem d_Lw_law_371 : decode b_Lw_law 371 = .ok (.goto 345, 3) := by decide +kernel
theorem d_Lw_law_374 : decode b_Lw_law 374 = .ok (.aload_n 1, 1) := by decide +kernel
theorem d_Lw_law_375 : decode b_Lw_law 375 = .ok (.aload_n 0, 1) := by decide +kernel
theorem d_Lw_law_376 : decode b_Lw_law 376 = .ok (.iload 4, 2) := by decide +kernel
theorem d_Lw_law_378 : decode b_Lw_law 378 = .ok (.iconst 1, 1) := by decide +kernel
theorem d_Lw_law_379 : decode b_Lw_law 379 = .ok (.iadd, 1) := by decide +kernel
theorem d_Lw_law_380 : decode b_Lw_law 380 = .ok (.iaload, 1) := by decide +kernel
theorem d_Lw_law_381 : decode b_Lw_law 381 = .ok (.i2l, 1) := by decide +kernel
theorem d_Lw_law_382 : decode b_Lw_law 382 = .ok (.bipush 32, 2) := by decide +kernel
theorem d_Lw_law_384 : decode b_Lw_law 384 = .ok (.lshl, 1) := by decide +kernel
theorem d_Lw_law_385 : decode b_Lw_law 385 = .ok (.aload_n 0, 1) := by decide +kernel
theorem d_Lw_law_386 : decode b_Lw_law 386 = .ok (.iload 4, 2) := by decide +kernel
theorem d_Lw_law_388 : decode b_Lw_law 388 = .ok (.iconst 2, 1) := by decide +kernel
theorem d_Lw_law_389 : decode b_Lw_law 389 = .ok (.iadd, 1) := by decide +kernel
theorem d_Lw_law_390 : decode b_Lw_law 390 = .ok (.iaload, 1) := by decide +kernel
theorem d_Lw_law_391 : decode b_Lw_law 391 = .ok (.i2l, 1) := by decide +kernel
theorem d_Lw_law_392 : decode b_Lw_law 392 = .ok (.ldc2_w 74, 3) := by decide +kernel
theorem d_Lw_law_395 : decode b_Lw_law 395 = .ok (.land, 1) := by decide +kernel
theorem d_Lw_law_396 : decode b_Lw_law 396 = .ok (.lor, 1) := by decide +kernel
theorem d_Lw_law_397 : decode b_Lw_law 397 = .ok (.aload_n 3, 1) := by decide +kernel
theorem d_Lw_law_398 : decode b_Lw_law 398 = .ok (.invokestatic 76, 3) := by decide +kernel
theorem d_Lw_law_401 : decode b_Lw_law 401 = .ok (.istore 5, 2) := by decide +kernel
theorem d_Lw_law_403 : decode b_Lw_law 403 = .ok (.aload_n 2, 1) := by decide +kernel
theorem d_Lw_law_404 : decode b_Lw_law 404 = .ok (.aload_n 0, 1) := by decide +kernel
theorem d_Lw_law_405 : decode b_Lw_law 405 = .ok (.iload 4, 2) := by decide +kernel
theorem d_Lw_law_407 : decode b_Lw_law 407 = .ok (.iconst 1, 1) := by decide +kernel
theorem d_Lw_law_408 : decode b_Lw_law 408 = .ok (.iadd, 1) := by decide +kernel
theorem d_Lw_law_409 : decode b_Lw_law 409 = .ok (.iaload, 1) := by decide +kernel
theorem d_Lw_law_410 : decode b_Lw_law 410 = .ok (.i2l, 1) := by decide +kernel
theorem d_Lw_law_411 : decode b_Lw_law 411 = .ok (.bipush 32, 2) := by decide +kernel
theorem d_Lw_law_413 : decode b_Lw_law 413 = .ok (.lshl, 1) := by decide +kernel
theorem d_Lw_law_414 : decode b_Lw_law 414 = .ok (.aload_n 0, 1) := by decide +kernel
theorem d_Lw_law_415 : decode b_Lw_law 415 = .ok (.iload 4, 2) := by decide +kernel
theorem d_Lw_law_417 : decode b_Lw_law 417 = .ok (.iconst 2, 1) := by decide +kernel
theorem d_Lw_law_418 : decode b_Lw_law 418 = .ok (.iadd, 1) := by decide +kernel
theorem d_Lw_law_419 : decode b_Lw_law 419 = .ok (.iaload, 1) := by decide +kernel
theorem d_Lw_law_420 : decode b_Lw_law 420 = .ok (.i2l, 1) := by decide +kernel
theorem d_Lw_law_421 : decode b_Lw_law 421 = .ok (.ldc2_w 74, 3) := by decide +kernel
theorem d_Lw_law_424 : decode b_Lw_law 424 = .ok (.land, 1) := by decide +kernel
theorem d_Lw_law_425 : decode b_Lw_law 425 = .ok (.lor, 1) := by decide +kernel
theorem d_Lw_law_426 : decode b_Lw_law 426 = .ok (.invokevirtual 79, 3) := by decide +kernel
theorem d_Lw_law_429 : decode b_Lw_law 429 = .ok (.lstore 6, 2) := by decide +kernel
theorem d_Lw_law_431 : decode b_Lw_law 431 = .ok (.aload_n 2, 1) := by decide +kernel
theorem d_Lw_law_432 : decode b_Lw_law 432 = .ok (.invokevirtual 59, 3) := by decide +kernel
theorem d_Lw_law_435 : decode b_Lw_law 435 = .ok (.iload 5, 2) := by decide +kernel
theorem d_Lw_law_437 : decode b_Lw_law 437 = .ok (.if_icmp .eq 5, 3) := by decide +kernel
theorem d_Lw_law_440 : decode b_Lw_law 440 = .ok (.iconst 0, 1) := by decide +kernel
theorem d_Lw_law_441 : decode b_Lw_law 441 = .ok (.ireturn, 1) := by decide +kernel
theorem d_Lw_law_442 : decode b_Lw_law 442 = .ok (.iload 5, 2) := by decide +kernel
theorem d_Lw_law_444 : decode b_Lw_law 444 = .ok (.ifCond .ne 14, 3) := by decide +kernel
theorem d_Lw_law_447 : decode b_Lw_law 447 = .ok (.aload_n 3, 1) := by decide +kernel
theorem d_Lw_law_448 : decode b_Lw_law 448 = .ok (.iconst 0, 1) := by decide +kernel
theorem d_Lw_law_449 : decode b_Lw_law 449 = .ok (.laload, 1) := by decide +kernel
theorem d_Lw_law_450 : decode b_Lw_law 450 = .ok (.lload 6, 2) := by decide +kernel
theorem d_Lw_law_452 : decode b_Lw_law 452 = .ok (.lcmp, 1) := by decide +kernel
theorem d_Lw_law_453 : decode b_Lw_law 453 = .ok (.ifCond .eq 5, 3) := by decide +kernel
theorem d_Lw_law_456 : decode b_Lw_law 456 = .ok (.iconst 0, 1) := by decide +kernel
theorem d_Lw_law_457 : decode b_Lw_law 457 = .ok (.ireturn, 1) := by decide +kernel
theorem d_Lw_law_458 : decode b_Lw_law 458 = .ok (.goto 258, 3) := by decide +kernel
theorem d_Lw_law_461 : decode b_Lw_law 461 = .ok (.aload_n 1, 1) := by decide +kernel
theorem d_Lw_law_462 : decode b_Lw_law 462 = .ok (.aload_n 0, 1) := by decide +kernel
theorem d_Lw_law_463 : decode b_Lw_law 463 = .ok (.iload 4, 2) := by decide +kernel
theorem d_Lw_law_465 : decode b_Lw_law 465 = .ok (.iconst 1, 1) := by decide +kernel
theorem d_Lw_law_466 : decode b_Lw_law 466 = .ok (.iadd, 1) := by decide +kernel
theorem d_Lw_law_467 : decode b_Lw_law 467 = .ok (.iaload, 1) := by decide +kernel
theorem d_Lw_law_468 : decode b_Lw_law 468 = .ok (.aload_n 0, 1) := by decide +kernel
theorem d_Lw_law_469 : decode b_Lw_law 469 = .ok (.iload 4, 2) := by decide +kernel
theorem d_Lw_law_471 : decode b_Lw_law 471 = .ok (.iconst 2, 1) := by decide +kernel
theorem d_Lw_law_472 : decode b_Lw_law 472 = .ok (.iadd, 1) := by decide +kernel
theorem d_Lw_law_473 : decode b_Lw_law 473 = .ok (.iaload, 1) := by decide +kernel
theorem d_Lw_law_474 : decode b_Lw_law 474 = .ok (.aload_n 3, 1) := by decide +kernel
theorem d_Lw_law_475 : decode b_Lw_law 475 = .ok (.invokestatic 80, 3) := by decide +kernel
theorem d_Lw_law_478 : decode b_Lw_law 478 = .ok (.istore 5, 2) := by decide +kernel
theorem d_Lw_law_480 : decode b_Lw_law 480 = .ok (.aload_n 2, 1) := by decide +kernel
theorem d_Lw_law_481 : decode b_Lw_law 481 = .ok (.aload_n 0, 1) := by decide +kernel
theorem d_Lw_law_482 : decode b_Lw_law 482 = .ok (.iload 4, 2) := by decide +kernel
theorem d_Lw_law_484 : decode b_Lw_law 484 = .ok (.iconst 1, 1) := by decide +kernel
theorem d_Lw_law_485 : decode b_Lw_law 485 = .ok (.iadd, 1) := by decide +kernel
theorem d_Lw_law_486 : decode b_Lw_law 486 = .ok (.iaload, 1) := by decide +kernel
theorem d_Lw_law_487 : decode b_Lw_law 487 = .ok (.aload_n 0, 1) := by decide +kernel
theorem d_Lw_law_488 : decode b_Lw_law 488 = .ok (.iload 4, 2) := by decide +kernel
theorem d_Lw_law_490 : decode b_Lw_law 490 = .ok (.iconst 2, 1) := by decide +kernel
theorem d_Lw_law_491 : decode b_Lw_law 491 = .ok (.iadd, 1) := by decide +kernel
theorem d_Lw_law_492 : decode b_Lw_law 492 = .ok (.iaload, 1) := by decide +kernel
theorem d_Lw_law_493 : decode b_Lw_law 493 = .ok (.invokevirtual 83, 3) := by decide +kernel
theorem d_Lw_law_496 : decode b_Lw_law 496 = .ok (.lstore 6, 2) := by decide +kernel
theorem d_Lw_law_498 : decode b_Lw_law 498 = .ok (.aload_n 2, 1) := by decide +kernel
theorem d_Lw_law_499 : decode b_Lw_law 499 = .ok (.invokevirtual 59, 3) := by decide +kernel
theorem d_Lw_law_502 : decode b_Lw_law 502 = .ok (.iload 5, 2) := by decide +kernel
theorem d_Lw_law_504 : decode b_Lw_law 504 = .ok (.if_icmp .eq 5, 3) := by decide +kernel
theorem d_Lw_law_507 : decode b_Lw_law 507 = .ok (.iconst 0, 1) := by decide +kernel
theorem d_Lw_law_508 : decode b_Lw_law 508 = .ok (.ireturn, 1) := by decide +kernel
theorem d_Lw_law_509 : decode b_Lw_law 509 = .ok (.iload 5, 2) := by decide +kernel
theorem d_Lw_law_511 : decode b_Lw_law 511 = .ok (.ifCond .ne 14, 3) := by decide +kernel
theorem d_Lw_law_514 : decode b_Lw_law 514 = .ok (.aload_n 3, 1) := by decide +kernel
theorem d_Lw_law_515 : decode b_Lw_law 515 = .ok (.iconst 0, 1) := by decide +kernel
theorem d_Lw_law_516 : decode b_Lw_law 516 = .ok (.laload, 1) := by decide +kernel
theorem d_Lw_law_517 : decode b_Lw_law 517 = .ok (.lload 6, 2) := by decide +kernel
theorem d_Lw_law_519 : decode b_Lw_law 519 = .ok (.lcmp, 1) := by decide +kernel
theorem d_Lw_law_520 : decode b_Lw_law 520 = .ok (.ifCond .eq 5, 3) := by decide +kernel
theorem d_Lw_law_523 : decode b_Lw_law 523 = .ok (.iconst 0, 1) := by decide +kernel
theorem d_Lw_law_524 : decode b_Lw_law 524 = .ok (.ireturn, 1) := by decide +kernel
theorem d_Lw_law_525 : decode b_Lw_law 525 = .ok (.goto 191, 3) := by decide +kernel
theorem d_Lw_law_528 : decode b_Lw_law 528 = .ok (.aload_n 1, 1) := by decide +kernel
theorem d_Lw_law_529 : decode b_Lw_law 529 = .ok (.aload_n 0, 1) := by decide +kernel
theorem d_Lw_law_530 : decode b_Lw_law 530 = .ok (.iload 4, 2) := by decide +kernel
theorem d_Lw_law_532 : decode b_Lw_law 532 = .ok (.iconst 1, 1) := by decide +kernel
theorem d_Lw_law_533 : decode b_Lw_law 533 = .ok (.iadd, 1) := by decide +kernel
theorem d_Lw_law_534 : decode b_Lw_law 534 = .ok (.iaload, 1) := by decide +kernel
theorem d_Lw_law_535 : decode b_Lw_law 535 = .ok (.aload_n 0, 1) := by decide +kernel
theorem d_Lw_law_536 : decode b_Lw_law 536 = .ok (.iload 4, 2) := by decide +kernel
theorem d_Lw_law_538 : decode b_Lw_law 538 = .ok (.iconst 2, 1) := by decide +kernel
theorem d_Lw_law_539 : decode b_Lw_law 539 = .ok (.iadd, 1) := by decide +kernel
theorem d_Lw_law_540 : decode b_Lw_law 540 = .ok (.iaload, 1) := by decide +kernel
theorem d_Lw_law_541 : decode b_Lw_law 541 = .ok (.aload_n 0, 1) := by decide +kernel
theorem d_Lw_law_542 : decode b_Lw_law 542 = .ok (.iload 4, 2) := by decide +kernel
theorem d_Lw_law_544 : decode b_Lw_law 544 = .ok (.iconst 3, 1) := by decide +kernel
theorem d_Lw_law_545 : decode b_Lw_law 545 = .ok (.iadd, 1) := by decide +kernel
theorem d_Lw_law_546 : decode b_Lw_law 546 = .ok (.iaload, 1) := by decide +kernel
theorem d_Lw_law_547 : decode b_Lw_law 547 = .ok (.i2l, 1) := by decide +kernel
theorem d_Lw_law_548 : decode b_Lw_law 548 = .ok (.bipush 32, 2) := by decide +kernel
theorem d_Lw_law_550 : decode b_Lw_law 550 = .ok (.lshl, 1) := by decide +kernel
theorem d_Lw_law_551 : decode b_Lw_law 551 = .ok (.aload_n 0, 1) := by decide +kernel
theorem d_Lw_law_552 : decode b_Lw_law 552 = .ok (.iload 4, 2) := by decide +kernel
theorem d_Lw_law_554 : decode b_Lw_law 554 = .ok (.iconst 4, 1) := by decide +kernel
theorem d_Lw_law_555 : decode b_Lw_law 555 = .ok (.iadd, 1) := by decide +kernel
theorem d_Lw_law_556 : decode b_Lw_law 556 = .ok (.iaload, 1) := by decide +kernel
theorem d_Lw_law_557 : decode b_Lw_law 557 = .ok (.i2l, 1) := by decide +kernel
theorem d_Lw_law_558 : decode b_Lw_law 558 = .ok (.ldc2_w 74, 3) := by decide +kernel
theorem d_Lw_law_561 : decode b_Lw_law 561 = .ok (.land, 1) := by decide +kernel
theorem d_Lw_law_562 : decode b_Lw_law 562 = .ok (.lor, 1) := by decide +kernel
theorem d_Lw_law_563 : decode b_Lw_law 563 = .ok (.invokestatic 84, 3) := by decide +kernel
theorem d_Lw_law_566 : decode b_Lw_law 566 = .ok (.istore 5, 2) := by decide +kernel
theorem d_Lw_law_568 : decode b_Lw_law 568 = .ok (.aload_n 2, 1) := by decide +kernel
theorem d_Lw_law_569 : decode b_Lw_law 569 = .ok (.aload_n 0, 1) := by decide +kernel
theorem d_Lw_law_570 : decode b_Lw_law 570 = .ok (.iload 4, 2) := by decide +kernel
theorem d_Lw_law_572 : decode b_Lw_law 572 = .ok (.iconst 1, 1) := by decide +kernel
theorem d_Lw_law_573 : decode b_Lw_law 573 = .ok (.iadd, 1) := by decide +kernel
theorem d_Lw_law_574 : decode b_Lw_law 574 = .ok (.iaload, 1) := by decide +kernel
theorem d_Lw_law_575 : decode b_Lw_law 575 = .ok (.aload_n 0, 1) := by decide +kernel
theorem d_Lw_law_576 : decode b_Lw_law 576 = .ok (.iload 4, 2) := by decide +kernel
theorem d_Lw_law_578 : decode b_Lw_law 578 = .ok (.iconst 2, 1) := by decide +kernel
theorem d_Lw_law_579 : decode b_Lw_law 579 = .ok (.iadd, 1) := by decide +kernel
theorem d_Lw_law_580 : decode b_Lw_law 580 = .ok (.iaload, 1) := by decide +kernel
theorem d_Lw_law_581 : decode b_Lw_law 581 = .ok (.aload_n 0, 1) := by decide +kernel
theorem d_Lw_law_582 : decode b_Lw_law 582 = .ok (.iload 4, 2) := by decide +kernel
theorem d_Lw_law_584 : decode b_Lw_law 584 = .ok (.iconst 3, 1) := by decide +kernel
theorem d_Lw_law_585 : decode b_Lw_law 585 = .ok (.iadd, 1) := by decide +kernel
theorem d_Lw_law_586 : decode b_Lw_law 586 = .ok (.iaload, 1) := by decide +kernel
theorem d_Lw_law_587 : decode b_Lw_law 587 = .ok (.i2l, 1) := by decide +kernel
theorem d_Lw_law_588 : decode b_Lw_law 588 = .ok (.bipush 32, 2) := by decide +kernel
theorem d_Lw_law_590 : decode b_Lw_law 590 = .ok (.lshl, 1) := by decide +kernel
theorem d_Lw_law_591 : decode b_Lw_law 591 = .ok (.aload_n 0, 1) := by decide +kernel
theorem d_Lw_law_592 : decode b_Lw_law 592 = .ok (.iload 4, 2) := by decide +kernel
theorem d_Lw_law_594 : decode b_Lw_law 594 = .ok (.iconst 4, 1) := by decide +kernel
theorem d_Lw_law_595 : decode b_Lw_law 595 = .ok (.iadd, 1) := by decide +kernel
theorem d_Lw_law_596 : decode b_Lw_law 596 = .ok (.iaload, 1) := by decide +kernel
theorem d_Lw_law_597 : decode b_Lw_law 597 = .ok (.i2l, 1) := by decide +kernel
theorem d_Lw_law_598 : decode b_Lw_law 598 = .ok (.ldc2_w 74, 3) := by decide +kernel
theorem d_Lw_law_601 : decode b_Lw_law 601 = .ok (.land, 1) := by decide +kernel
theorem d_Lw_law_602 : decode b_Lw_law 602 = .ok (.lor, 1) := by decide +kernel
theorem d_Lw_law_603 : decode b_Lw_law 603 = .ok (.invokevirtual 87, 3) := by decide +kernel
theorem d_Lw_law_606 : decode b_Lw_law 606 = .ok (.aload_n 2, 1) := by decide +kernel
theorem d_Lw_law_607 : decode b_Lw_law 607 = .ok (.invokevirtual 59, 3) := by decide +kernel
theorem d_Lw_law_610 : decode b_Lw_law 610 = .ok (.iload 5, 2) := by decide +kernel
theorem d_Lw_law_612 : decode b_Lw_law 612 = .ok (.if_icmp .eq 5, 3) := by decide +kernel
theorem d_Lw_law_615 : decode b_Lw_law 615 = .ok (.iconst 0, 1) := by decide +kernel
theorem d_Lw_law_616 : decode b_Lw_law 616 = .ok (.ireturn, 1) := by decide +kernel
theorem d_Lw_law_617 : decode b_Lw_law 617 = .ok (.goto 99, 3) := by decide +kernel
theorem d_Lw_law_620 : decode b_Lw_law 620 = .ok (.aload_n 1, 1) := by decide +kernel
theorem d_Lw_law_621 : decode b_Lw_law 621 = .ok (.aload_n 0, 1) := by decide +kernel
theorem d_Lw_law_622 : decode b_Lw_law 622 = .ok (.iload 4, 2) := by decide +kernel
theorem d_Lw_law_624 : decode b_Lw_law 624 = .ok (.iconst 1, 1) := by decide +kernel
theorem d_Lw_law_625 : decode b_Lw_law 625 = .ok (.iadd, 1) := by decide +kernel
theorem d_Lw_law_626 : decode b_Lw_law 626 = .ok (.iaload, 1) := by decide +kernel
theorem d_Lw_law_627 : decode b_Lw_law 627 = .ok (.ifCond .eq 7, 3) := by decide +kernel
theorem d_Lw_law_630 : decode b_Lw_law 630 = .ok (.iconst 1, 1) := by decide +kernel
theorem d_Lw_law_631 : decode b_Lw_law 631 = .ok (.goto 4, 3) := by decide +kernel
theorem d_Lw_law_634 : decode b_Lw_law 634 = .ok (.iconst 0, 1) := by decide +kernel
theorem d_Lw_law_635 : decode b_Lw_law 635 = .ok (.aload_n 3, 1) := by decide +kernel
theorem d_Lw_law_636 : decode b_Lw_law 636 = .ok (.invokestatic 88, 3) := by decide +kernel
theorem d_Lw_law_639 : decode b_Lw_law 639 = .ok (.istore 5, 2) := by decide +kernel
theorem d_Lw_law_641 : decode b_Lw_law 641 = .ok (.aload_n 2, 1) := by decide +kernel
theorem d_Lw_law_642 : decode b_Lw_law 642 = .ok (.aload_n 0, 1) := by decide +kernel
theorem d_Lw_law_643 : decode b_Lw_law 643 = .ok (.iload 4, 2) := by decide +kernel
theorem d_Lw_law_645 : decode b_Lw_law 645 = .ok (.iconst 1, 1) := by decide +kernel
theorem d_Lw_law_646 : decode b_Lw_law 646 = .ok (.iadd, 1) := by decide +kernel
theorem d_Lw_law_647 : decode b_Lw_law 647 = .ok (.iaload, 1) := by decide +kernel
theorem d_Lw_law_648 : decode b_Lw_law 648 = .ok (.ifCond .eq 7, 3) := by decide +kernel
theorem d_Lw_law_651 : decode b_Lw_law 651 = .ok (.iconst 1, 1) := by decide +kernel
theorem d_Lw_law_652 : decode b_Lw_law 652 = .ok (.goto 4, 3) := by decide +kernel
theorem d_Lw_law_655 : decode b_Lw_law 655 = .ok (.iconst 0, 1) := by decide +kernel
theorem d_Lw_law_656 : decode b_Lw_law 656 = .ok (.invokevirtual 91, 3) := by decide +kernel
theorem d_Lw_law_659 : decode b_Lw_law 659 = .ok (.lstore 6, 2) := by decide +kernel
theorem d_Lw_law_661 : decode b_Lw_law 661 = .ok (.aload_n 2, 1) := by decide +kernel
theorem d_Lw_law_662 : decode b_Lw_law 662 = .ok (.invokevirtual 59, 3) := by decide +kernel
theorem d_Lw_law_665 : decode b_Lw_law 665 = .ok (.iload 5, 2) := by decide +kernel
theorem d_Lw_law_667 : decode b_Lw_law 667 = .ok (.if_icmp .eq 5, 3) := by decide +kernel
theorem d_Lw_law_670 : decode b_Lw_law 670 = .ok (.iconst 0, 1) := by decide +kernel
theorem d_Lw_law_671 : decode b_Lw_law 671 = .ok (.ireturn, 1) := by decide +kernel
theorem d_Lw_law_672 : decode b_Lw_law 672 = .ok (.iload 5, 2) := by decide +kernel
theorem d_Lw_law_674 : decode b_Lw_law 674 = .ok (.ifCond .ne 14, 3) := by decide +kernel
theorem d_Lw_law_677 : decode b_Lw_law 677 = .ok (.aload_n 3, 1) := by decide +kernel
theorem d_Lw_law_678 : decode b_Lw_law 678 = .ok (.iconst 0, 1) := by decide +kernel
theorem d_Lw_law_679 : decode b_Lw_law 679 = .ok (.laload, 1) := by decide +kernel
theorem d_Lw_law_680 : decode b_Lw_law 680 = .ok (.lload 6, 2) := by decide +kernel
theorem d_Lw_law_682 : decode b_Lw_law 682 = .ok (.lcmp, 1) := by decide +kernel
theorem d_Lw_law_683 : decode b_Lw_law 683 = .ok (.ifCond .eq 5, 3) := by decide +kernel
theorem d_Lw_law_686 : decode b_Lw_law 686 = .ok (.iconst 0, 1) := by decide +kernel
theorem d_Lw_law_687 : decode b_Lw_law 687 = .ok (.ireturn, 1) := by decide +kernel
theorem d_Lw_law_688 : decode b_Lw_law 688 = .ok (.goto 28, 3) := by decide +kernel
theorem d_Lw_law_691 : decode b_Lw_law 691 = .ok (.aload_n 1, 1) := by decide +kernel
theorem d_Lw_law_692 : decode b_Lw_law 692 = .ok (.aload_n 0, 1) := by decide +kernel
theorem d_Lw_law_693 : decode b_Lw_law 693 = .ok (.iload 4, 2) := by decide +kernel
theorem d_Lw_law_695 : decode b_Lw_law 695 = .ok (.iconst 1, 1) := by decide +kernel
theorem d_Lw_law_696 : decode b_Lw_law 696 = .ok (.iadd, 1) := by decide +kernel
theorem d_Lw_law_697 : decode b_Lw_law 697 = .ok (.iaload, 1) := by decide +kernel
theorem d_Lw_law_698 : decode b_Lw_law 698 = .ok (.invokevirtual 92, 3) := by decide +kernel
theorem d_Lw_law_701 : decode b_Lw_law 701 = .ok (.aload_n 2, 1) := by decide +kernel
theorem d_Lw_law_702 : decode b_Lw_law 702 = .ok (.aload_n 0, 1) := by decide +kernel
theorem d_Lw_law_703 : decode b_Lw_law 703 = .ok (.iload 4, 2) := by decide +kernel
theorem d_Lw_law_705 : decode b_Lw_law 705 = .ok (.iconst 1, 1) := by decide +kernel
theorem d_Lw_law_706 : decode b_Lw_law 706 = .ok (.iadd, 1) := by decide +kernel
theorem d_Lw_law_707 : decode b_Lw_law 707 = .ok (.iaload, 1) := by decide +kernel
theorem d_Lw_law_708 : decode b_Lw_law 708 = .ok (.invokevirtual 96, 3) := by decide +kernel
theorem d_Lw_law_711 : decode b_Lw_law 711 = .ok (.if_icmp .eq 5, 3) := by decide +kernel
theorem d_Lw_law_714 : decode b_Lw_law 714 = .ok (.iconst 0, 1) := by decide +kernel
theorem d_Lw_law_715 : decode b_Lw_law 715 = .ok (.ireturn, 1) := by decide +kernel
theorem d_Lw_law_716 : decode b_Lw_law 716 = .ok (.iinc 4 7, 3) := by decide +kernel
theorem d_Lw_law_719 : decode b_Lw_law 719 = .ok (.goto (-696), 3) := by decide +kernel
theorem d_Lw_law_722 : decode b_Lw_law 722 = .ok (.iconst 1, 1) := by decide +kernel
theorem d_Lw_law_723 : decode b_Lw_law 723 = .ok (.ireturn, 1) := by decide +kernel
