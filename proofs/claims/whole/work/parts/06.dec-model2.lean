theorem d_Md_store_0 : decode b_Md_store 0 = .ok (.aload_n 0, 1) := by decide +kernel
theorem d_Md_store_1 : decode b_Md_store 1 = .ok (.getfield 13, 3) := by decide +kernel
theorem d_Md_store_4 : decode b_Md_store 4 = .ok (.iload_n 1, 1) := by decide +kernel
theorem d_Md_store_5 : decode b_Md_store 5 = .ok (.iaload, 1) := by decide +kernel
theorem d_Md_store_6 : decode b_Md_store 6 = .ok (.istore_n 2, 1) := by decide +kernel
theorem d_Md_store_7 : decode b_Md_store 7 = .ok (.bipush 6, 2) := by decide +kernel
theorem d_Md_store_9 : decode b_Md_store 9 = .ok (.aload_n 0, 1) := by decide +kernel
theorem d_Md_store_10 : decode b_Md_store 10 = .ok (.getfield 28, 3) := by decide +kernel
theorem d_Md_store_13 : decode b_Md_store 13 = .ok (.iload_n 2, 1) := by decide +kernel
theorem d_Md_store_14 : decode b_Md_store 14 = .ok (.laload, 1) := by decide +kernel
theorem d_Md_store_15 : decode b_Md_store 15 = .ok (.aload_n 0, 1) := by decide +kernel
theorem d_Md_store_16 : decode b_Md_store 16 = .ok (.getfield 19, 3) := by decide +kernel
theorem d_Md_store_19 : decode b_Md_store 19 = .ok (.iload_n 1, 1) := by decide +kernel
theorem d_Md_store_20 : decode b_Md_store 20 = .ok (.iaload, 1) := by decide +kernel
theorem d_Md_store_21 : decode b_Md_store 21 = .ok (.i2l, 1) := by decide +kernel
theorem d_Md_store_22 : decode b_Md_store 22 = .ok (.ladd, 1) := by decide +kernel
theorem d_Md_store_23 : decode b_Md_store 23 = .ok (.l2i, 1) := by decide +kernel
theorem d_Md_store_24 : decode b_Md_store 24 = .ok (.iadd, 1) := by decide +kernel
theorem d_Md_store_25 : decode b_Md_store 25 = .ok (.istore_n 3, 1) := by decide +kernel
theorem d_Md_store_26 : decode b_Md_store 26 = .ok (.bipush 6, 2) := by decide +kernel
theorem d_Md_store_28 : decode b_Md_store 28 = .ok (.aload_n 0, 1) := by decide +kernel
theorem d_Md_store_29 : decode b_Md_store 29 = .ok (.getfield 32, 3) := by decide +kernel
theorem d_Md_store_32 : decode b_Md_store 32 = .ok (.iload_n 2, 1) := by decide +kernel
theorem d_Md_store_33 : decode b_Md_store 33 = .ok (.laload, 1) := by decide +kernel
theorem d_Md_store_34 : decode b_Md_store 34 = .ok (.aload_n 0, 1) := by decide +kernel
theorem d_Md_store_35 : decode b_Md_store 35 = .ok (.getfield 19, 3) := by decide +kernel
theorem d_Md_store_38 : decode b_Md_store 38 = .ok (.iload_n 1, 1) := by decide +kernel
theorem d_Md_store_39 : decode b_Md_store 39 = .ok (.iaload, 1) := by decide +kernel
theorem d_Md_store_40 : decode b_Md_store 40 = .ok (.i2l, 1) := by decide +kernel
theorem d_Md_store_41 : decode b_Md_store 41 = .ok (.ladd, 1) := by decide +kernel
theorem d_Md_store_42 : decode b_Md_store 42 = .ok (.l2i, 1) := by decide +kernel
theorem d_Md_store_43 : decode b_Md_store 43 = .ok (.iadd, 1) := by decide +kernel
theorem d_Md_store_44 : decode b_Md_store 44 = .ok (.istore 4, 2) := by decide +kernel
theorem d_Md_store_46 : decode b_Md_store 46 = .ok (.aload_n 0, 1) := by decide +kernel
theorem d_Md_store_47 : decode b_Md_store 47 = .ok (.getfield 16, 3) := by decide +kernel
theorem d_Md_store_50 : decode b_Md_store 50 = .ok (.iload_n 1, 1) := by decide +kernel
theorem d_Md_store_51 : decode b_Md_store 51 = .ok (.iaload, 1) := by decide +kernel
theorem d_Md_store_52 : decode b_Md_store 52 = .ok (.istore 5, 2) := by decide +kernel
theorem d_Md_store_54 : decode b_Md_store 54 = .ok (.aload_n 0, 1) := by decide +kernel
theorem d_Md_store_55 : decode b_Md_store 55 = .ok (.getfield 25, 3) := by decide +kernel
theorem d_Md_store_58 : decode b_Md_store 58 = .ok (.iload_n 2, 1) := by decide +kernel
theorem d_Md_store_59 : decode b_Md_store 59 = .ok (.iaload, 1) := by decide +kernel
theorem d_Md_store_60 : decode b_Md_store 60 = .ok (.iconst 3, 1) := by decide +kernel
theorem d_Md_store_61 : decode b_Md_store 61 = .ok (.if_icmp .ne 4, 3) := by decide +kernel
theorem d_Md_store_64 : decode b_Md_store 64 = .ok (.return_, 1) := by decide +kernel
theorem d_Md_store_65 : decode b_Md_store 65 = .ok (.iload_n 3, 1) := by decide +kernel
theorem d_Md_store_66 : decode b_Md_store 66 = .ok (.iload 4, 2) := by decide +kernel
theorem d_Md_store_68 : decode b_Md_store 68 = .ok (.if_icmp .ne 10, 3) := by decide +kernel
theorem d_Md_store_71 : decode b_Md_store 71 = .ok (.aload_n 0, 1) := by decide +kernel
theorem d_Md_store_72 : decode b_Md_store 72 = .ok (.iload 5, 2) := by decide +kernel
theorem d_Md_store_74 : decode b_Md_store 74 = .ok (.iload_n 3, 1) := by decide +kernel
theorem d_Md_store_75 : decode b_Md_store 75 = .ok (.invokevirtual 161, 3) := by decide +kernel
theorem d_Md_store_78 : decode b_Md_store 78 = .ok (.iload_n 3, 1) := by decide +kernel
theorem d_Md_store_79 : decode b_Md_store 79 = .ok (.istore 6, 2) := by decide +kernel
theorem d_Md_store_81 : decode b_Md_store 81 = .ok (.iload 6, 2) := by decide +kernel
theorem d_Md_store_83 : decode b_Md_store 83 = .ok (.iload 4, 2) := by decide +kernel
theorem d_Md_store_85 : decode b_Md_store 85 = .ok (.if_icmp .gt 92, 3) := by decide +kernel
theorem d_Md_store_88 : decode b_Md_store 88 = .ok (.iload_n 3, 1) := by decide +kernel
theorem d_Md_store_89 : decode b_Md_store 89 = .ok (.iload 4, 2) := by decide +kernel
theorem d_Md_store_91 : decode b_Md_store 91 = .ok (.if_icmp .ge 86, 3) := by decide +kernel
theorem d_Md_store_94 : decode b_Md_store 94 = .ok (.aload_n 0, 1) := by decide +kernel
theorem d_Md_store_95 : decode b_Md_store 95 = .ok (.getfield 25, 3) := by decide +kernel
theorem d_Md_store_98 : decode b_Md_store 98 = .ok (.iload 6, 2) := by decide +kernel
theorem d_Md_store_100 : decode b_Md_store 100 = .ok (.iaload, 1) := by decide +kernel
theorem d_Md_store_101 : decode b_Md_store 101 = .ok (.ifCond .ne 6, 3) := by decide +kernel
theorem d_Md_store_104 : decode b_Md_store 104 = .ok (.goto 67, 3) := by decide +kernel
theorem d_Md_store_107 : decode b_Md_store 107 = .ok (.aload_n 0, 1) := by decide +kernel
theorem d_Md_store_108 : decode b_Md_store 108 = .ok (.getfield 28, 3) := by decide +kernel
theorem d_Md_store_111 : decode b_Md_store 111 = .ok (.iload 5, 2) := by decide +kernel
theorem d_Md_store_113 : decode b_Md_store 113 = .ok (.laload, 1) := by decide +kernel
theorem d_Md_store_114 : decode b_Md_store 114 = .ok (.aload_n 0, 1) := by decide +kernel
theorem d_Md_store_115 : decode b_Md_store 115 = .ok (.getfield 28, 3) := by decide +kernel
theorem d_Md_store_118 : decode b_Md_store 118 = .ok (.iload 6, 2) := by decide +kernel
theorem d_Md_store_120 : decode b_Md_store 120 = .ok (.laload, 1) := by decide +kernel
theorem d_Md_store_121 : decode b_Md_store 121 = .ok (.lcmp, 1) := by decide +kernel
theorem d_Md_store_122 : decode b_Md_store 122 = .ok (.ifCond .ge 17, 3) := by decide +kernel
theorem d_Md_store_125 : decode b_Md_store 125 = .ok (.aload_n 0, 1) := by decide +kernel
theorem d_Md_store_126 : decode b_Md_store 126 = .ok (.getfield 28, 3) := by decide +kernel
theorem d_Md_store_129 : decode b_Md_store 129 = .ok (.iload 6, 2) := by decide +kernel
theorem d_Md_store_131 : decode b_Md_store 131 = .ok (.aload_n 0, 1) := by decide +kernel
theorem d_Md_store_132 : decode b_Md_store 132 = .ok (.getfield 28, 3) := by decide +kernel
theorem d_Md_store_135 : decode b_Md_store 135 = .ok (.iload 5, 2) := by decide +kernel
theorem d_Md_store_137 : decode b_Md_store 137 = .ok (.laload, 1) := by decide +kernel
theorem d_Md_store_138 : decode b_Md_store 138 = .ok (.lastore, 1) := by decide +kernel
theorem d_Md_store_139 : decode b_Md_store 139 = .ok (.aload_n 0, 1) := by decide +kernel
theorem d_Md_store_140 : decode b_Md_store 140 = .ok (.getfield 32, 3) := by decide +kernel
theorem d_Md_store_143 : decode b_Md_store 143 = .ok (.iload 5, 2) := by decide +kernel
theorem d_Md_store_145 : decode b_Md_store 145 = .ok (.laload, 1) := by decide +kernel
theorem d_Md_store_146 : decode b_Md_store 146 = .ok (.aload_n 0, 1) := by decide +kernel
theorem d_Md_store_147 : decode b_Md_store 147 = .ok (.getfield 32, 3) := by decide +kernel
theorem d_Md_store_150 : decode b_Md_store 150 = .ok (.iload 6, 2) := by decide +kernel
theorem d_Md_store_152 : decode b_Md_store 152 = .ok (.laload, 1) := by decide +kernel
theorem d_Md_store_153 : decode b_Md_store 153 = .ok (.lcmp, 1) := by decide +kernel
theorem d_Md_store_154 : decode b_Md_store 154 = .ok (.ifCond .le 17, 3) := by decide +kernel
theorem d_Md_store_157 : decode b_Md_store 157 = .ok (.aload_n 0, 1) := by decide +kernel
theorem d_Md_store_158 : decode b_Md_store 158 = .ok (.getfield 32, 3) := by decide +kernel
theorem d_Md_store_161 : decode b_Md_store 161 = .ok (.iload 6, 2) := by decide +kernel
theorem d_Md_store_163 : decode b_Md_store 163 = .ok (.aload_n 0, 1) := by decide +kernel
theorem d_Md_store_164 : decode b_Md_store 164 = .ok (.getfield 32, 3) := by decide +kernel
theorem d_Md_store_167 : decode b_Md_store 167 = .ok (.iload 5, 2) := by decide +kernel
theorem d_Md_store_169 : decode b_Md_store 169 = .ok (.laload, 1) := by decide +kernel
theorem d_Md_store_170 : decode b_Md_store 170 = .ok (.lastore, 1) := by decide +kernel
theorem d_Md_store_171 : decode b_Md_store 171 = .ok (.iinc 6 1, 3) := by decide +kernel
theorem d_Md_store_174 : decode b_Md_store 174 = .ok (.goto (-93), 3) := by decide +kernel
theorem d_Md_store_177 : decode b_Md_store 177 = .ok (.return_, 1) := by decide +kernel
theorem d_Md_callGuess_0 : decode b_Md_callGuess 0 = .ok (.iload_n 1, 1) := by decide +kernel
theorem d_Md_callGuess_1 : decode b_Md_callGuess 1 = .ok (.ifCond .ne 13, 3) := by decide +kernel
theorem d_Md_callGuess_4 : decode b_Md_callGuess 4 = .ok (.aload_n 0, 1) := by decide +kernel
theorem d_Md_callGuess_5 : decode b_Md_callGuess 5 = .ok (.iconst 0, 1) := by decide +kernel
theorem d_Md_callGuess_6 : decode b_Md_callGuess 6 = .ok (.iconst 1, 1) := by decide +kernel
theorem d_Md_callGuess_7 : decode b_Md_callGuess 7 = .ok (.lconst 0, 1) := by decide +kernel
theorem d_Md_callGuess_8 : decode b_Md_callGuess 8 = .ok (.ldc2_w 165, 3) := by decide +kernel
theorem d_Md_callGuess_11 : decode b_Md_callGuess 11 = .ok (.invokevirtual 83, 3) := by decide +kernel
theorem d_Md_callGuess_14 : decode b_Md_callGuess 14 = .ok (.iload_n 1, 1) := by decide +kernel
theorem d_Md_callGuess_15 : decode b_Md_callGuess 15 = .ok (.iconst 1, 1) := by decide +kernel
theorem d_Md_callGuess_16 : decode b_Md_callGuess 16 = .ok (.if_icmp .ne 11, 3) := by decide +kernel
theorem d_Md_callGuess_19 : decode b_Md_callGuess 19 = .ok (.aload_n 0, 1) := by decide +kernel
theorem d_Md_callGuess_20 : decode b_Md_callGuess 20 = .ok (.iconst 0, 1) := by decide +kernel
theorem d_Md_callGuess_21 : decode b_Md_callGuess 21 = .ok (.iconst 4, 1) := by decide +kernel
theorem d_Md_callGuess_22 : decode b_Md_callGuess 22 = .ok (.lconst 0, 1) := by decide +kernel
theorem d_Md_callGuess_23 : decode b_Md_callGuess 23 = .ok (.lconst 0, 1) := by decide +kernel
theorem d_Md_callGuess_24 : decode b_Md_callGuess 24 = .ok (.invokevirtual 83, 3) := by decide +kernel
theorem d_Md_callGuess_27 : decode b_Md_callGuess 27 = .ok (.iload_n 1, 1) := by decide +kernel
theorem d_Md_callGuess_28 : decode b_Md_callGuess 28 = .ok (.iconst 2, 1) := by decide +kernel
theorem d_Md_callGuess_29 : decode b_Md_callGuess 29 = .ok (.if_icmp .ne 71, 3) := by decide +kernel
theorem d_Md_callGuess_32 : decode b_Md_callGuess 32 = .ok (.aload_n 0, 1) := by decide +kernel
theorem d_Md_callGuess_33 : decode b_Md_callGuess 33 = .ok (.iconst 0, 1) := by decide +kernel
theorem d_Md_callGuess_34 : decode b_Md_callGuess 34 = .ok (.iconst 1, 1) := by decide +kernel
theorem d_Md_callGuess_35 : decode b_Md_callGuess 35 = .ok (.aload_n 0, 1) := by decide +kernel
theorem d_Md_callGuess_36 : decode b_Md_callGuess 36 = .ok (.getfield 28, 3) := by decide +kernel
theorem d_Md_callGuess_39 : decode b_Md_callGuess 39 = .ok (.iconst 1, 1) := by decide +kernel
theorem d_Md_callGuess_40 : decode b_Md_callGuess 40 = .ok (.laload, 1) := by decide +kernel
theorem d_Md_callGuess_41 : decode b_Md_callGuess 41 = .ok (.aload_n 0, 1) := by decide +kernel
theorem d_Md_callGuess_42 : decode b_Md_callGuess 42 = .ok (.getfield 28, 3) := by decide +kernel
theorem d_Md_callGuess_45 : decode b_Md_callGuess 45 = .ok (.iconst 2, 1) := by decide +kernel
theorem d_Md_callGuess_46 : decode b_Md_callGuess 46 = .ok (.laload, 1) := by decide +kernel
theorem d_Md_callGuess_47 : decode b_Md_callGuess 47 = .ok (.lcmp, 1) := by decide +kernel
theorem d_Md_callGuess_48 : decode b_Md_callGuess 48 = .ok (.ifCond .le 12, 3) := by decide +kernel
theorem d_Md_callGuess_51 : decode b_Md_callGuess 51 = .ok (.aload_n 0, 1) := by decide +kernel
theorem d_Md_callGuess_52 : decode b_Md_callGuess 52 = .ok (.getfield 28, 3) := by decide +kernel
theorem d_Md_callGuess_55 : decode b_Md_callGuess 55 = .ok (.iconst 1, 1) := by decide +kernel
theorem d_Md_callGuess_56 : decode b_Md_callGuess 56 = .ok (.laload, 1) := by decide +kernel
theorem d_Md_callGuess_57 : decode b_Md_callGuess 57 = .ok (.goto 9, 3) := by decide +kernel
theorem d_Md_callGuess_60 : decode b_Md_callGuess 60 = .ok (.aload_n 0, 1) := by decide +kernel
theorem d_Md_callGuess_61 : decode b_Md_callGuess 61 = .ok (.getfield 28, 3) := by decide +kernel
theorem d_Md_callGuess_64 : decode b_Md_callGuess 64 = .ok (.iconst 2, 1) := by decide +kernel
theorem d_Md_callGuess_65 : decode b_Md_callGuess 65 = .ok (.laload, 1) := by decide +kernel
theorem d_Md_callGuess_66 : decode b_Md_callGuess 66 = .ok (.aload_n 0, 1) := by decide +kernel
theorem d_Md_callGuess_67 : decode b_Md_callGuess 67 = .ok (.getfield 32, 3) := by decide +kernel
theorem d_Md_callGuess_70 : decode b_Md_callGuess 70 = .ok (.iconst 1, 1) := by decide +kernel
theorem d_Md_callGuess_71 : decode b_Md_callGuess 71 = .ok (.laload, 1) := by decide +kernel
theorem d_Md_callGuess_72 : decode b_Md_callGuess 72 = .ok (.aload_n 0, 1) := by decide +kernel
theorem d_Md_callGuess_73 : decode b_Md_callGuess 73 = .ok (.getfield 32, 3) := by decide +kernel
theorem d_Md_callGuess_76 : decode b_Md_callGuess 76 = .ok (.iconst 2, 1) := by decide +kernel
theorem d_Md_callGuess_77 : decode b_Md_callGuess 77 = .ok (.laload, 1) := by decide +kernel
theorem d_Md_callGuess_78 : decode b_Md_callGuess 78 = .ok (.lcmp, 1) := by decide +kernel
theorem d_Md_callGuess_79 : decode b_Md_callGuess 79 = .ok (.ifCond .le 12, 3) := by decide +kernel
theorem d_Md_callGuess_82 : decode b_Md_callGuess 82 = .ok (.aload_n 0, 1) := by decide +kernel
theorem d_Md_callGuess_83 : decode b_Md_callGuess 83 = .ok (.getfield 32, 3) := by decide +kernel
theorem d_Md_callGuess_86 : decode b_Md_callGuess 86 = .ok (.iconst 1, 1) := by decide +kernel
theorem d_Md_callGuess_87 : decode b_Md_callGuess 87 = .ok (.laload, 1) := by decide +kernel
theorem d_Md_callGuess_88 : decode b_Md_callGuess 88 = .ok (.goto 9, 3) := by decide +kernel
theorem d_Md_callGuess_91 : decode b_Md_callGuess 91 = .ok (.aload_n 0, 1) := by decide +kernel
theorem d_Md_callGuess_92 : decode b_Md_callGuess 92 = .ok (.getfield 32, 3) := by decide +kernel
theorem d_Md_callGuess_95 : decode b_Md_callGuess 95 = .ok (.iconst 2, 1) := by decide +kernel
theorem d_Md_callGuess_96 : decode b_Md_callGuess 96 = .ok (.laload, 1) := by decide +kernel
theorem d_Md_callGuess_97 : decode b_Md_callGuess 97 = .ok (.invokevirtual 83, 3) := by decide +kernel
theorem d_Md_callGuess_100 : decode b_Md_callGuess 100 = .ok (.iconst 1, 1) := by decide +kernel
theorem d_Md_callGuess_101 : decode b_Md_callGuess 101 = .ok (.istore_n 2, 1) := by decide +kernel
theorem d_Md_callGuess_102 : decode b_Md_callGuess 102 = .ok (.iload_n 2, 1) := by decide +kernel
theorem d_Md_callGuess_103 : decode b_Md_callGuess 103 = .ok (.iconst 4, 1) := by decide +kernel
theorem d_Md_callGuess_104 : decode b_Md_callGuess 104 = .ok (.if_icmp .ge 17, 3) := by decide +kernel
theorem d_Md_callGuess_107 : decode b_Md_callGuess 107 = .ok (.aload_n 0, 1) := by decide +kernel
theorem d_Md_callGuess_108 : decode b_Md_callGuess 108 = .ok (.iload_n 2, 1) := by decide +kernel
theorem d_Md_callGuess_109 : decode b_Md_callGuess 109 = .ok (.iconst 0, 1) := by decide +kernel
theorem d_Md_callGuess_110 : decode b_Md_callGuess 110 = .ok (.lconst 0, 1) := by decide +kernel
theorem d_Md_callGuess_111 : decode b_Md_callGuess 111 = .ok (.lconst 0, 1) := by decide +kernel
theorem d_Md_callGuess_112 : decode b_Md_callGuess 112 = .ok (.invokevirtual 83, 3) := by decide +kernel
theorem d_Md_callGuess_115 : decode b_Md_callGuess 115 = .ok (.iinc 2 1, 3) := by decide +kernel
theorem d_Md_callGuess_118 : decode b_Md_callGuess 118 = .ok (.goto (-16), 3) := by decide +kernel
theorem d_Md_callGuess_121 : decode b_Md_callGuess 121 = .ok (.return_, 1) := by decide +kernel
theorem d_Md_branch_0 : decode b_Md_branch 0 = .ok (.aload_n 0, 1) := by decide +kernel
theorem d_Md_branch_1 : decode b_Md_branch 1 = .ok (.getfield 7, 3) := by decide +kernel
theorem d_Md_branch_4 : decode b_Md_branch 4 = .ok (.iload_n 1, 1) := by decide +kernel
theorem d_Md_branch_5 : decode b_Md_branch 5 = .ok (.iaload, 1) := by decide +kernel
theorem d_Md_branch_6 : decode b_Md_branch 6 = .ok (.istore_n 2, 1) := by decide +kernel
theorem d_Md_branch_7 : decode b_Md_branch 7 = .ok (.aload_n 0, 1) := by decide +kernel
theorem d_Md_branch_8 : decode b_Md_branch 8 = .ok (.getfield 13, 3) := by decide +kernel
theorem d_Md_branch_11 : decode b_Md_branch 11 = .ok (.iload_n 1, 1) := by decide +kernel
theorem d_Md_branch_12 : decode b_Md_branch 12 = .ok (.iaload, 1) := by decide +kernel
theorem d_Md_branch_13 : decode b_Md_branch 13 = .ok (.istore_n 3, 1) := by decide +kernel
theorem d_Md_branch_14 : decode b_Md_branch 14 = .ok (.aload_n 0, 1) := by decide +kernel
theorem d_Md_branch_15 : decode b_Md_branch 15 = .ok (.getfield 16, 3) := by decide +kernel
theorem d_Md_branch_18 : decode b_Md_branch 18 = .ok (.iload_n 1, 1) := by decide +kernel
theorem d_Md_branch_19 : decode b_Md_branch 19 = .ok (.iaload, 1) := by decide +kernel
theorem d_Md_branch_20 : decode b_Md_branch 20 = .ok (.istore 4, 2) := by decide +kernel
theorem d_Md_branch_22 : decode b_Md_branch 22 = .ok (.aload_n 0, 1) := by decide +kernel
theorem d_Md_branch_23 : decode b_Md_branch 23 = .ok (.getfield 25, 3) := by decide +kernel
theorem d_Md_branch_26 : decode b_Md_branch 26 = .ok (.iload_n 3, 1) := by decide +kernel
theorem d_Md_branch_27 : decode b_Md_branch 27 = .ok (.iaload, 1) := by decide +kernel
theorem d_Md_branch_28 : decode b_Md_branch 28 = .ok (.istore 5, 2) := by decide +kernel
theorem d_Md_branch_30 : decode b_Md_branch 30 = .ok (.aload_n 0, 1) := by decide +kernel
theorem d_Md_branch_31 : decode b_Md_branch 31 = .ok (.getfield 19, 3) := by decide +kernel
theorem d_Md_branch_34 : decode b_Md_branch 34 = .ok (.iload_n 1, 1) := by decide +kernel
theorem d_Md_branch_35 : decode b_Md_branch 35 = .ok (.iaload, 1) := by decide +kernel
theorem d_Md_branch_36 : decode b_Md_branch 36 = .ok (.i2l, 1) := by decide +kernel
theorem d_Md_branch_37 : decode b_Md_branch 37 = .ok (.lstore 6, 2) := by decide +kernel
theorem d_Md_branch_39 : decode b_Md_branch 39 = .ok (.aload_n 0, 1) := by decide +kernel
theorem d_Md_branch_40 : decode b_Md_branch 40 = .ok (.getfield 28, 3) := by decide +kernel
theorem d_Md_branch_43 : decode b_Md_branch 43 = .ok (.iload_n 3, 1) := by decide +kernel
theorem d_Md_branch_44 : decode b_Md_branch 44 = .ok (.laload, 1) := by decide +kernel
theorem d_Md_branch_45 : decode b_Md_branch 45 = .ok (.lstore 8, 2) := by decide +kernel
theorem d_Md_branch_47 : decode b_Md_branch 47 = .ok (.aload_n 0, 1) := by decide +kernel
theorem d_Md_branch_48 : decode b_Md_branch 48 = .ok (.getfield 32, 3) := by decide +kernel
theorem d_Md_branch_51 : decode b_Md_branch 51 = .ok (.iload_n 3, 1) := by decide +kernel
theorem d_Md_branch_52 : decode b_Md_branch 52 = .ok (.laload, 1) := by decide +kernel
theorem d_Md_branch_53 : decode b_Md_branch 53 = .ok (.lstore 10, 2) := by decide +kernel
theorem d_Md_branch_55 : decode b_Md_branch 55 = .ok (.aload_n 0, 1) := by decide +kernel
theorem d_Md_branch_56 : decode b_Md_branch 56 = .ok (.getfield 28, 3) := by decide +kernel
theorem d_Md_branch_59 : decode b_Md_branch 59 = .ok (.iload 4, 2) := by decide +kernel
theorem d_Md_branch_61 : decode b_Md_branch 61 = .ok (.laload, 1) := by decide +kernel
theorem d_Md_branch_62 : decode b_Md_branch 62 = .ok (.lstore 12, 2) := by decide +kernel
theorem d_Md_branch_64 : decode b_Md_branch 64 = .ok (.aload_n 0, 1) := by decide +kernel
theorem d_Md_branch_65 : decode b_Md_branch 65 = .ok (.getfield 32, 3) := by decide +kernel
theorem d_Md_branch_68 : decode b_Md_branch 68 = .ok (.iload 4, 2) := by decide +kernel
theorem d_Md_branch_70 : decode b_Md_branch 70 = .ok (.laload, 1) := by decide +kernel
theorem d_Md_branch_71 : decode b_Md_branch 71 = .ok (.lstore 14, 2) := by decide +kernel
theorem d_Md_branch_73 : decode b_Md_branch 73 = .ok (.iconst 1, 1) := by decide +kernel
theorem d_Md_branch_74 : decode b_Md_branch 74 = .ok (.istore 16, 2) := by decide +kernel
theorem d_Md_branch_76 : decode b_Md_branch 76 = .ok (.iconst 1, 1) := by decide +kernel
theorem d_Md_branch_77 : decode b_Md_branch 77 = .ok (.istore 17, 2) := by decide +kernel
theorem d_Md_branch_79 : decode b_Md_branch 79 = .ok (.iload_n 2, 1) := by decide +kernel
theorem d_Md_branch_80 : decode b_Md_branch 80 = .ok (.bipush 10, 2) := by decide +kernel
theorem d_Md_branch_82 : decode b_Md_branch 82 = .ok (.if_icmp .ne 73, 3) := by decide +kernel
theorem d_Md_branch_85 : decode b_Md_branch 85 = .ok (.iload 5, 2) := by decide +kernel
theorem d_Md_branch_87 : decode b_Md_branch 87 = .ok (.iconst 1, 1) := by decide +kernel
theorem d_Md_branch_88 : decode b_Md_branch 88 = .ok (.if_icmp .ne 67, 3) := by decide +kernel
theorem d_Md_branch_91 : decode b_Md_branch 91 = .ok (.lload 8, 2) := by decide +kernel
theorem d_Md_branch_93 : decode b_Md_branch 93 = .ok (.lload 6, 2) := by decide +kernel
theorem d_Md_branch_95 : decode b_Md_branch 95 = .ok (.lcmp, 1) := by decide +kernel
theorem d_Md_branch_96 : decode b_Md_branch 96 = .ok (.ifCond .gt 15, 3) := by decide +kernel
theorem d_Md_branch_99 : decode b_Md_branch 99 = .ok (.lload 6, 2) := by decide +kernel
theorem d_Md_branch_101 : decode b_Md_branch 101 = .ok (.lload 10, 2) := by decide +kernel
theorem d_Md_branch_103 : decode b_Md_branch 103 = .ok (.lcmp, 1) := by decide +kernel
theorem d_Md_branch_104 : decode b_Md_branch 104 = .ok (.ifCond .gt 7, 3) := by decide +kernel
theorem d_Md_branch_107 : decode b_Md_branch 107 = .ok (.iconst 1, 1) := by decide +kernel
theorem d_Md_branch_108 : decode b_Md_branch 108 = .ok (.goto 4, 3) := by decide +kernel
theorem d_Md_branch_111 : decode b_Md_branch 111 = .ok (.iconst 0, 1) := by decide +kernel
theorem d_Md_branch_112 : decode b_Md_branch 112 = .ok (.istore 16, 2) := by decide +kernel
theorem d_Md_branch_114 : decode b_Md_branch 114 = .ok (.lload 8, 2) := by decide +kernel
theorem d_Md_branch_116 : decode b_Md_branch 116 = .ok (.lload 6, 2) := by decide +kernel
theorem d_Md_branch_118 : decode b_Md_branch 118 = .ok (.lcmp, 1) := by decide +kernel
theorem d_Md_branch_119 : decode b_Md_branch 119 = .ok (.ifCond .ne 11, 3) := by decide +kernel
theorem d_Md_branch_122 : decode b_Md_branch 122 = .ok (.lload 10, 2) := by decide +kernel
theorem d_Md_branch_124 : decode b_Md_branch 124 = .ok (.lload 6, 2) := by decide +kernel
theorem d_Md_branch_126 : decode b_Md_branch 126 = .ok (.lcmp, 1) := by decide +kernel
theorem d_Md_branch_127 : decode b_Md_branch 127 = .ok (.ifCond .eq 7, 3) := by decide +kernel
theorem d_Md_branch_130 : decode b_Md_branch 130 = .ok (.iconst 1, 1) := by decide +kernel
theorem d_Md_branch_131 : decode b_Md_branch 131 = .ok (.goto 4, 3) := by decide +kernel
theorem d_Md_branch_134 : decode b_Md_branch 134 = .ok (.iconst 0, 1) := by decide +kernel
theorem d_Md_branch_135 : decode b_Md_branch 135 = .ok (.istore 17, 2) := by decide +kernel
theorem d_Md_branch_137 : decode b_Md_branch 137 = .ok (.iload 16, 2) := by decide +kernel
theorem d_Md_branch_139 : decode b_Md_branch 139 = .ok (.ifCond .eq 188, 3) := by decide +kernel
theorem d_Md_branch_142 : decode b_Md_branch 142 = .ok (.aload_n 0, 1) := by decide +kernel
theorem d_Md_branch_143 : decode b_Md_branch 143 = .ok (.iload_n 3, 1) := by decide +kernel
theorem d_Md_branch_144 : decode b_Md_branch 144 = .ok (.iconst 1, 1) := by decide +kernel
theorem d_Md_branch_145 : decode b_Md_branch 145 = .ok (.lload 6, 2) := by decide +kernel
theorem d_Md_branch_147 : decode b_Md_branch 147 = .ok (.lload 6, 2) := by decide +kernel
theorem d_Md_branch_149 : decode b_Md_branch 149 = .ok (.invokevirtual 83, 3) := by decide +kernel
theorem d_Md_branch_152 : decode b_Md_branch 152 = .ok (.goto 175, 3) := by decide +kernel
theorem d_Md_branch_155 : decode b_Md_branch 155 = .ok (.iload_n 2, 1) := by decide +kernel
theorem d_Md_branch_156 : decode b_Md_branch 156 = .ok (.bipush 10, 2) := by decide +kernel
theorem d_Md_branch_158 : decode b_Md_branch 158 = .ok (.if_icmp .ne 14, 3) := by decide +kernel
theorem d_Md_branch_161 : decode b_Md_branch 161 = .ok (.aload_n 0, 1) := by decide +kernel
theorem d_Md_branch_162 : decode b_Md_branch 162 = .ok (.iload_n 3, 1) := by decide +kernel
theorem d_Md_branch_163 : decode b_Md_branch 163 = .ok (.iconst 1, 1) := by decide +kernel
theorem d_Md_branch_164 : decode b_Md_branch 164 = .ok (.lconst 0, 1) := by decide +kernel
theorem d_Md_branch_165 : decode b_Md_branch 165 = .ok (.lconst 0, 1) := by decide +kernel
theorem d_Md_branch_166 : decode b_Md_branch 166 = .ok (.invokevirtual 83, 3) := by decide +kernel
theorem d_Md_branch_169 : decode b_Md_branch 169 = .ok (.goto 158, 3) := by decide +kernel
theorem d_Md_branch_172 : decode b_Md_branch 172 = .ok (.iload_n 2, 1) := by decide +kernel
theorem d_Md_branch_173 : decode b_Md_branch 173 = .ok (.bipush 11, 2) := by decide +kernel
theorem d_Md_branch_175 : decode b_Md_branch 175 = .ok (.if_icmp .ne 59, 3) := by decide +kernel
theorem d_Md_branch_178 : decode b_Md_branch 178 = .ok (.lload 10, 2) := by decide +kernel
theorem d_Md_branch_180 : decode b_Md_branch 180 = .ok (.lload 6, 2) := by decide +kernel
theorem d_Md_branch_182 : decode b_Md_branch 182 = .ok (.lcmp, 1) := by decide +kernel
theorem d_Md_branch_183 : decode b_Md_branch 183 = .ok (.ifCond .le 7, 3) := by decide +kernel
theorem d_Md_branch_186 : decode b_Md_branch 186 = .ok (.iconst 1, 1) := by decide +kernel
theorem d_Md_branch_187 : decode b_Md_branch 187 = .ok (.goto 4, 3) := by decide +kernel
theorem d_Md_branch_190 : decode b_Md_branch 190 = .ok (.iconst 0, 1) := by decide +kernel
theorem d_Md_branch_191 : decode b_Md_branch 191 = .ok (.istore 16, 2) := by decide +kernel
theorem d_Md_branch_193 : decode b_Md_branch 193 = .ok (.lload 8, 2) := by decide +kernel
theorem d_Md_branch_195 : decode b_Md_branch 195 = .ok (.lload 6, 2) := by decide +kernel
theorem d_Md_branch_197 : decode b_Md_branch 197 = .ok (.lcmp, 1) := by decide +kernel
theorem d_Md_branch_198 : decode b_Md_branch 198 = .ok (.ifCond .gt 7, 3) := by decide +kernel
theorem d_Md_branch_201 : decode b_Md_branch 201 = .ok (.iconst 1, 1) := by decide +kernel
theorem d_Md_branch_202 : decode b_Md_branch 202 = .ok (.goto 4, 3) := by decide +kernel
theorem d_Md_branch_205 : decode b_Md_branch 205 = .ok (.iconst 0, 1) := by decide +kernel
theorem d_Md_branch_206 : decode b_Md_branch 206 = .ok (.istore 17, 2) := by decide +kernel
theorem d_Md_branch_208 : decode b_Md_branch 208 = .ok (.iload 16, 2) := by decide +kernel
theorem d_Md_branch_210 : decode b_Md_branch 210 = .ok (.ifCond .eq 117, 3) := by decide +kernel
theorem d_Md_branch_213 : decode b_Md_branch 213 = .ok (.lload 8, 2) := by decide +kernel
theorem d_Md_branch_215 : decode b_Md_branch 215 = .ok (.lload 6, 2) := by decide +kernel
theorem d_Md_branch_217 : decode b_Md_branch 217 = .ok (.lcmp, 1) := by decide +kernel
theorem d_Md_branch_218 : decode b_Md_branch 218 = .ok (.ifCond .gt 109, 3) := by decide +kernel
theorem d_Md_branch_221 : decode b_Md_branch 221 = .ok (.aload_n 0, 1) := by decide +kernel
theorem d_Md_branch_222 : decode b_Md_branch 222 = .ok (.getfield 28, 3) := by decide +kernel
theorem d_Md_branch_225 : decode b_Md_branch 225 = .ok (.iload_n 3, 1) := by decide +kernel
theorem d_Md_branch_226 : decode b_Md_branch 226 = .ok (.lload 6, 2) := by decide +kernel
theorem d_Md_branch_228 : decode b_Md_branch 228 = .ok (.lconst 1, 1) := by decide +kernel
theorem d_Md_branch_229 : decode b_Md_branch 229 = .ok (.ladd, 1) := by decide +kernel
theorem d_Md_branch_230 : decode b_Md_branch 230 = .ok (.lastore, 1) := by decide +kernel
theorem d_Md_branch_231 : decode b_Md_branch 231 = .ok (.goto 96, 3) := by decide +kernel
theorem d_Md_branch_234 : decode b_Md_branch 234 = .ok (.iload_n 3, 1) := by decide +kernel
theorem d_Md_branch_235 : decode b_Md_branch 235 = .ok (.iload 4, 2) := by decide +kernel
theorem d_Md_branch_237 : decode b_Md_branch 237 = .ok (.if_icmp .ne 9, 3) := by decide +kernel
theorem d_Md_branch_240 : decode b_Md_branch 240 = .ok (.iconst 0, 1) := by decide +kernel
theorem d_Md_branch_241 : decode b_Md_branch 241 = .ok (.istore 16, 2) := by decide +kernel
theorem d_Md_branch_243 : decode b_Md_branch 243 = .ok (.goto 84, 3) := by decide +kernel
theorem d_Md_branch_246 : decode b_Md_branch 246 = .ok (.lload 8, 2) := by decide +kernel
theorem d_Md_branch_248 : decode b_Md_branch 248 = .ok (.lload 14, 2) := by decide +kernel
theorem d_Md_branch_250 : decode b_Md_branch 250 = .ok (.lcmp, 1) := by decide +kernel
theorem d_Md_branch_251 : decode b_Md_branch 251 = .ok (.ifCond .ge 7, 3) := by decide +kernel
theorem d_Md_branch_254 : decode b_Md_branch 254 = .ok (.iconst 1, 1) := by decide +kernel
theorem d_Md_branch_255 : decode b_Md_branch 255 = .ok (.goto 4, 3) := by decide +kernel
theorem d_Md_branch_258 : decode b_Md_branch 258 = .ok (.iconst 0, 1) := by decide +kernel
theorem d_Md_branch_259 : decode b_Md_branch 259 = .ok (.istore 16, 2) := by decide +kernel
theorem d_Md_branch_261 : decode b_Md_branch 261 = .ok (.lload 10, 2) := by decide +kernel
theorem d_Md_branch_263 : decode b_Md_branch 263 = .ok (.lload 12, 2) := by decide +kernel
theorem d_Md_branch_265 : decode b_Md_branch 265 = .ok (.lcmp, 1) := by decide +kernel
theorem d_Md_branch_266 : decode b_Md_branch 266 = .ok (.ifCond .lt 7, 3) := by decide +kernel
theorem d_Md_branch_269 : decode b_Md_branch 269 = .ok (.iconst 1, 1) := by decide +kernel
theorem d_Md_branch_270 : decode b_Md_branch 270 = .ok (.goto 4, 3) := by decide +kernel
theorem d_Md_branch_273 : decode b_Md_branch 273 = .ok (.iconst 0, 1) := by decide +kernel
theorem d_Md_branch_274 : decode b_Md_branch 274 = .ok (.istore 17, 2) := by decide +kernel
theorem d_Md_branch_276 : decode b_Md_branch 276 = .ok (.iload 16, 2) := by decide +kernel
theorem d_Md_branch_278 : decode b_Md_branch 278 = .ok (.ifCond .eq 23, 3) := by decide +kernel
theorem d_Md_branch_281 : decode b_Md_branch 281 = .ok (.lload 10, 2) := by decide +kernel
theorem d_Md_branch_283 : decode b_Md_branch 283 = .ok (.lload 14, 2) := by decide +kernel
theorem d_Md_branch_285 : decode b_Md_branch 285 = .ok (.lconst 1, 1) := by decide +kernel
theorem d_Md_branch_286 : decode b_Md_branch 286 = .ok (.lsub, 1) := by decide +kernel
theorem d_Md_branch_287 : decode b_Md_branch 287 = .ok (.lcmp, 1) := by decide +kernel
theorem d_Md_branch_288 : decode b_Md_branch 288 = .ok (.ifCond .le 13, 3) := by decide +kernel
theorem d_Md_branch_291 : decode b_Md_branch 291 = .ok (.aload_n 0, 1) := by decide +kernel
theorem d_Md_branch_292 : decode b_Md_branch 292 = .ok (.getfield 32, 3) := by decide +kernel
theorem d_Md_branch_295 : decode b_Md_branch 295 = .ok (.iload_n 3, 1) := by decide +kernel
theorem d_Md_branch_296 : decode b_Md_branch 296 = .ok (.lload 14, 2) := by decide +kernel
theorem d_Md_branch_298 : decode b_Md_branch 298 = .ok (.lconst 1, 1) := by decide +kernel
theorem d_Md_branch_299 : decode b_Md_branch 299 = .ok (.lsub, 1) := by decide +kernel
theorem d_Md_branch_300 : decode b_Md_branch 300 = .ok (.lastore, 1) := by decide +kernel
theorem d_Md_branch_301 : decode b_Md_branch 301 = .ok (.iload 16, 2) := by decide +kernel
theorem d_Md_branch_303 : decode b_Md_branch 303 = .ok (.ifCond .eq 24, 3) := by decide +kernel
theorem d_Md_branch_306 : decode b_Md_branch 306 = .ok (.lload 12, 2) := by decide +kernel
theorem d_Md_branch_308 : decode b_Md_branch 308 = .ok (.lload 8, 2) := by decide +kernel
theorem d_Md_branch_310 : decode b_Md_branch 310 = .ok (.lconst 1, 1) := by decide +kernel
theorem d_Md_branch_311 : decode b_Md_branch 311 = .ok (.ladd, 1) := by decide +kernel
theorem d_Md_branch_312 : decode b_Md_branch 312 = .ok (.lcmp, 1) := by decide +kernel
theorem d_Md_branch_313 : decode b_Md_branch 313 = .ok (.ifCond .ge 14, 3) := by decide +kernel
theorem d_Md_branch_316 : decode b_Md_branch 316 = .ok (.aload_n 0, 1) := by decide +kernel
theorem d_Md_branch_317 : decode b_Md_branch 317 = .ok (.getfield 28, 3) := by decide +kernel
theorem d_Md_branch_320 : decode b_Md_branch 320 = .ok (.iload 4, 2) := by decide +kernel
theorem d_Md_branch_322 : decode b_Md_branch 322 = .ok (.lload 8, 2) := by decide +kernel
theorem d_Md_branch_324 : decode b_Md_branch 324 = .ok (.lconst 1, 1) := by decide +kernel
theorem d_Md_branch_325 : decode b_Md_branch 325 = .ok (.ladd, 1) := by decide +kernel
theorem d_Md_branch_326 : decode b_Md_branch 326 = .ok (.lastore, 1) := by decide +kernel
theorem d_Md_branch_327 : decode b_Md_branch 327 = .ok (.iload 16, 2) := by decide +kernel
theorem d_Md_branch_329 : decode b_Md_branch 329 = .ok (.ifCond .eq 13, 3) := by decide +kernel
theorem d_Md_branch_332 : decode b_Md_branch 332 = .ok (.aload_n 0, 1) := by decide +kernel
theorem d_Md_branch_333 : decode b_Md_branch 333 = .ok (.aload_n 0, 1) := by decide +kernel
theorem d_Md_branch_334 : decode b_Md_branch 334 = .ok (.getfield 22, 3) := by decide +kernel
theorem d_Md_branch_337 : decode b_Md_branch 337 = .ok (.iload_n 1, 1) := by decide +kernel
theorem d_Md_branch_338 : decode b_Md_branch 338 = .ok (.iaload, 1) := by decide +kernel
theorem d_Md_branch_339 : decode b_Md_branch 339 = .ok (.invokevirtual 167, 3) := by decide +kernel
theorem d_Md_branch_342 : decode b_Md_branch 342 = .ok (.aload_n 0, 1) := by decide +kernel
theorem d_Md_branch_343 : decode b_Md_branch 343 = .ok (.iload_n 3, 1) := by decide +kernel
theorem d_Md_branch_344 : decode b_Md_branch 344 = .ok (.iload 5, 2) := by decide +kernel
theorem d_Md_branch_346 : decode b_Md_branch 346 = .ok (.lload 8, 2) := by decide +kernel
theorem d_Md_branch_348 : decode b_Md_branch 348 = .ok (.lload 10, 2) := by decide +kernel
theorem d_Md_branch_350 : decode b_Md_branch 350 = .ok (.invokevirtual 83, 3) := by decide +kernel
theorem d_Md_branch_353 : decode b_Md_branch 353 = .ok (.iload_n 3, 1) := by decide +kernel
theorem d_Md_branch_354 : decode b_Md_branch 354 = .ok (.iload 4, 2) := by decide +kernel
theorem d_Md_branch_356 : decode b_Md_branch 356 = .ok (.if_icmp .eq 20, 3) := by decide +kernel
theorem d_Md_branch_359 : decode b_Md_branch 359 = .ok (.aload_n 0, 1) := by decide +kernel
theorem d_Md_branch_360 : decode b_Md_branch 360 = .ok (.iload 4, 2) := by decide +kernel
theorem d_Md_branch_362 : decode b_Md_branch 362 = .ok (.aload_n 0, 1) := by decide +kernel
theorem d_Md_branch_363 : decode b_Md_branch 363 = .ok (.getfield 25, 3) := by decide +kernel
theorem d_Md_branch_366 : decode b_Md_branch 366 = .ok (.iload 4, 2) := by decide +kernel
theorem d_Md_branch_368 : decode b_Md_branch 368 = .ok (.iaload, 1) := by decide +kernel
theorem d_Md_branch_369 : decode b_Md_branch 369 = .ok (.lload 12, 2) := by decide +kernel
theorem d_Md_branch_371 : decode b_Md_branch 371 = .ok (.lload 14, 2) := by decide +kernel
theorem d_Md_branch_373 : decode b_Md_branch 373 = .ok (.invokevirtual 83, 3) := by decide +kernel
theorem d_Md_branch_376 : decode b_Md_branch 376 = .ok (.iload 17, 2) := by decide +kernel
theorem d_Md_branch_378 : decode b_Md_branch 378 = .ok (.ifCond .ne 8, 3) := by decide +kernel
theorem d_Md_branch_381 : decode b_Md_branch 381 = .ok (.aload_n 0, 1) := by decide +kernel
theorem d_Md_branch_382 : decode b_Md_branch 382 = .ok (.invokevirtual 170, 3) := by decide +kernel
theorem d_Md_branch_385 : decode b_Md_branch 385 = .ok (.return_, 1) := by decide +kernel
theorem d_Md_branch_386 : decode b_Md_branch 386 = .ok (.iload_n 2, 1) := by decide +kernel
theorem d_Md_branch_387 : decode b_Md_branch 387 = .ok (.bipush 10, 2) := by decide +kernel
theorem d_Md_branch_389 : decode b_Md_branch 389 = .ok (.if_icmp .ne 27, 3) := by decide +kernel
theorem d_Md_branch_392 : decode b_Md_branch 392 = .ok (.iload 5, 2) := by decide +kernel
theorem d_Md_branch_394 : decode b_Md_branch 394 = .ok (.iconst 1, 1) := by decide +kernel
theorem d_Md_branch_395 : decode b_Md_branch 395 = .ok (.if_icmp .ne 21, 3) := by decide +kernel
theorem d_Md_branch_398 : decode b_Md_branch 398 = .ok (.lload 8, 2) := by decide +kernel
theorem d_Md_branch_400 : decode b_Md_branch 400 = .ok (.lload 6, 2) := by decide +kernel
theorem d_Md_branch_402 : decode b_Md_branch 402 = .ok (.lcmp, 1) := by decide +kernel
theorem d_Md_branch_403 : decode b_Md_branch 403 = .ok (.ifCond .ne 13, 3) := by decide +kernel
theorem d_Md_branch_406 : decode b_Md_branch 406 = .ok (.aload_n 0, 1) := by decide +kernel
theorem d_Md_branch_407 : decode b_Md_branch 407 = .ok (.getfield 28, 3) := by decide +kernel
theorem d_Md_branch_410 : decode b_Md_branch 410 = .ok (.iload_n 3, 1) := by decide +kernel
theorem d_Md_branch_411 : decode b_Md_branch 411 = .ok (.lload 6, 2) := by decide +kernel
theorem d_Md_branch_413 : decode b_Md_branch 413 = .ok (.lconst 1, 1) := by decide +kernel
theorem d_Md_branch_414 : decode b_Md_branch 414 = .ok (.ladd, 1) := by decide +kernel
theorem d_Md_branch_415 : decode b_Md_branch 415 = .ok (.lastore, 1) := by decide +kernel
theorem d_Md_branch_416 : decode b_Md_branch 416 = .ok (.iload_n 2, 1) := by decide +kernel
theorem d_Md_branch_417 : decode b_Md_branch 417 = .ok (.bipush 10, 2) := by decide +kernel
theorem d_Md_branch_419 : decode b_Md_branch 419 = .ok (.if_icmp .ne 27, 3) := by decide +kernel
theorem d_Md_branch_422 : decode b_Md_branch 422 = .ok (.iload 5, 2) := by decide +kernel
theorem d_Md_branch_424 : decode b_Md_branch 424 = .ok (.iconst 1, 1) := by decide +kernel
theorem d_Md_branch_425 : decode b_Md_branch 425 = .ok (.if_icmp .ne 21, 3) := by decide +kernel
theorem d_Md_branch_428 : decode b_Md_branch 428 = .ok (.lload 10, 2) := by decide +kernel
theorem d_Md_branch_430 : decode b_Md_branch 430 = .ok (.lload 6, 2) := by decide +kernel
theorem d_Md_branch_432 : decode b_Md_branch 432 = .ok (.lcmp, 1) := by decide +kernel
theorem d_Md_branch_433 : decode b_Md_branch 433 = .ok (.ifCond .ne 13, 3) := by decide +kernel
theorem d_Md_branch_436 : decode b_Md_branch 436 = .ok (.aload_n 0, 1) := by decide +kernel
theorem d_Md_branch_437 : decode b_Md_branch 437 = .ok (.getfield 32, 3) := by decide +kernel
theorem d_Md_branch_440 : decode b_Md_branch 440 = .ok (.iload_n 3, 1) := by decide +kernel
theorem d_Md_branch_441 : decode b_Md_branch 441 = .ok (.lload 6, 2) := by decide +kernel
theorem d_Md_branch_443 : decode b_Md_branch 443 = .ok (.lconst 1, 1) := by decide +kernel
theorem d_Md_branch_444 : decode b_Md_branch 444 = .ok (.lsub, 1) := by decide +kernel
theorem d_Md_branch_445 : decode b_Md_branch 445 = .ok (.lastore, 1) := by decide +kernel
theorem d_Md_branch_446 : decode b_Md_branch 446 = .ok (.iload_n 2, 1) := by decide +kernel
theorem d_Md_branch_447 : decode b_Md_branch 447 = .ok (.bipush 10, 2) := by decide +kernel
theorem d_Md_branch_449 : decode b_Md_branch 449 = .ok (.if_icmp .ne 17, 3) := by decide +kernel
theorem d_Md_branch_452 : decode b_Md_branch 452 = .ok (.iload 5, 2) := by decide +kernel
theorem d_Md_branch_454 : decode b_Md_branch 454 = .ok (.iconst 4, 1) := by decide +kernel
theorem d_Md_branch_455 : decode b_Md_branch 455 = .ok (.if_icmp .ne 11, 3) := by decide +kernel
theorem d_Md_branch_458 : decode b_Md_branch 458 = .ok (.aload_n 0, 1) := by decide +kernel
theorem d_Md_branch_459 : decode b_Md_branch 459 = .ok (.iload_n 3, 1) := by decide +kernel
theorem d_Md_branch_460 : decode b_Md_branch 460 = .ok (.iconst 3, 1) := by decide +kernel
theorem d_Md_branch_461 : decode b_Md_branch 461 = .ok (.lconst 0, 1) := by decide +kernel
theorem d_Md_branch_462 : decode b_Md_branch 462 = .ok (.lconst 0, 1) := by decide +kernel
theorem d_Md_branch_463 : decode b_Md_branch 463 = .ok (.invokevirtual 83, 3) := by decide +kernel
theorem d_Md_branch_466 : decode b_Md_branch 466 = .ok (.iload_n 2, 1) := by decide +kernel
theorem d_Md_branch_467 : decode b_Md_branch 467 = .ok (.bipush 11, 2) := by decide +kernel
theorem d_Md_branch_469 : decode b_Md_branch 469 = .ok (.if_icmp .ne 19, 3) := by decide +kernel
theorem d_Md_branch_472 : decode b_Md_branch 472 = .ok (.lload 10, 2) := by decide +kernel
theorem d_Md_branch_474 : decode b_Md_branch 474 = .ok (.lload 6, 2) := by decide +kernel
theorem d_Md_branch_476 : decode b_Md_branch 476 = .ok (.lcmp, 1) := by decide +kernel
theorem d_Md_branch_477 : decode b_Md_branch 477 = .ok (.ifCond .le 11, 3) := by decide +kernel
theorem d_Md_branch_480 : decode b_Md_branch 480 = .ok (.aload_n 0, 1) := by decide +kernel
theorem d_Md_branch_481 : decode b_Md_branch 481 = .ok (.getfield 32, 3) := by decide +kernel
theorem d_Md_branch_484 : decode b_Md_branch 484 = .ok (.iload_n 3, 1) := by decide +kernel
theorem d_Md_branch_485 : decode b_Md_branch 485 = .ok (.lload 6, 2) := by decide +kernel
theorem d_Md_branch_487 : decode b_Md_branch 487 = .ok (.lastore, 1) := by decide +kernel
theorem d_Md_branch_488 : decode b_Md_branch 488 = .ok (.iload_n 2, 1) := by decide +kernel
theorem d_Md_branch_489 : decode b_Md_branch 489 = .ok (.bipush 12, 2) := by decide +kernel
theorem d_Md_branch_491 : decode b_Md_branch 491 = .ok (.if_icmp .ne 25, 3) := by decide +kernel
theorem d_Md_branch_494 : decode b_Md_branch 494 = .ok (.iload_n 3, 1) := by decide +kernel
theorem d_Md_branch_495 : decode b_Md_branch 495 = .ok (.iload 4, 2) := by decide +kernel
theorem d_Md_branch_497 : decode b_Md_branch 497 = .ok (.if_icmp .eq 19, 3) := by decide +kernel
theorem d_Md_branch_500 : decode b_Md_branch 500 = .ok (.lload 8, 2) := by decide +kernel
theorem d_Md_branch_502 : decode b_Md_branch 502 = .ok (.lload 12, 2) := by decide +kernel
theorem d_Md_branch_504 : decode b_Md_branch 504 = .ok (.lcmp, 1) := by decide +kernel
theorem d_Md_branch_505 : decode b_Md_branch 505 = .ok (.ifCond .ge 11, 3) := by decide +kernel
theorem d_Md_branch_508 : decode b_Md_branch 508 = .ok (.aload_n 0, 1) := by decide +kernel
theorem d_Md_branch_509 : decode b_Md_branch 509 = .ok (.getfield 28, 3) := by decide +kernel
theorem d_Md_branch_512 : decode b_Md_branch 512 = .ok (.iload_n 3, 1) := by decide +kernel
theorem d_Md_branch_513 : decode b_Md_branch 513 = .ok (.lload 12, 2) := by decide +kernel
theorem d_Md_branch_515 : decode b_Md_branch 515 = .ok (.lastore, 1) := by decide +kernel
theorem d_Md_branch_516 : decode b_Md_branch 516 = .ok (.iload_n 2, 1) := by decide +kernel
theorem d_Md_branch_517 : decode b_Md_branch 517 = .ok (.bipush 12, 2) := by decide +kernel
theorem d_Md_branch_519 : decode b_Md_branch 519 = .ok (.if_icmp .ne 26, 3) := by decide +kernel
theorem d_Md_branch_522 : decode b_Md_branch 522 = .ok (.iload_n 3, 1) := by decide +kernel
theorem d_Md_branch_523 : decode b_Md_branch 523 = .ok (.iload 4, 2) := by decide +kernel
theorem d_Md_branch_525 : decode b_Md_branch 525 = .ok (.if_icmp .eq 20, 3) := by decide +kernel
theorem d_Md_branch_528 : decode b_Md_branch 528 = .ok (.lload 14, 2) := by decide +kernel
theorem d_Md_branch_530 : decode b_Md_branch 530 = .ok (.lload 10, 2) := by decide +kernel
theorem d_Md_branch_532 : decode b_Md_branch 532 = .ok (.lcmp, 1) := by decide +kernel
theorem d_Md_branch_533 : decode b_Md_branch 533 = .ok (.ifCond .le 12, 3) := by decide +kernel
theorem d_Md_branch_536 : decode b_Md_branch 536 = .ok (.aload_n 0, 1) := by decide +kernel
theorem d_Md_branch_537 : decode b_Md_branch 537 = .ok (.getfield 32, 3) := by decide +kernel
theorem d_Md_branch_540 : decode b_Md_branch 540 = .ok (.iload 4, 2) := by decide +kernel
theorem d_Md_branch_542 : decode b_Md_branch 542 = .ok (.lload 10, 2) := by decide +kernel
theorem d_Md_branch_544 : decode b_Md_branch 544 = .ok (.lastore, 1) := by decide +kernel
theorem d_Md_branch_545 : decode b_Md_branch 545 = .ok (.aload_n 0, 1) := by decide +kernel
theorem d_Md_branch_546 : decode b_Md_branch 546 = .ok (.iload_n 1, 1) := by decide +kernel
theorem d_Md_branch_547 : decode b_Md_branch 547 = .ok (.iconst 1, 1) := by decide +kernel
theorem d_Md_branch_548 : decode b_Md_branch 548 = .ok (.iadd, 1) := by decide +kernel
theorem d_Md_branch_549 : decode b_Md_branch 549 = .ok (.putfield 140, 3) := by decide +kernel
theorem d_Md_branch_552 : decode b_Md_branch 552 = .ok (.return_, 1) := by decide +kernel
theorem d_Md_leave_0 : decode b_Md_leave 0 = .ok (.aload_n 0, 1) := by decide +kernel
theorem d_Md_leave_1 : decode b_Md_leave 1 = .ok (.getfield 173, 3) := by decide +kernel
theorem d_Md_leave_4 : decode b_Md_leave 4 = .ok (.ifCond .eq 17, 3) := by decide +kernel
theorem d_Md_leave_7 : decode b_Md_leave 7 = .ok (.aload_n 0, 1) := by decide +kernel
theorem d_Md_leave_8 : decode b_Md_leave 8 = .ok (.getfield 28, 3) := by decide +kernel
theorem d_Md_leave_11 : decode b_Md_leave 11 = .ok (.iconst 0, 1) := by decide +kernel
theorem d_Md_leave_12 : decode b_Md_leave 12 = .ok (.laload, 1) := by decide +kernel
theorem d_Md_leave_13 : decode b_Md_leave 13 = .ok (.aload_n 0, 1) := by decide +kernel
theorem d_Md_leave_14 : decode b_Md_leave 14 = .ok (.getfield 176, 3) := by decide +kernel
theorem d_Md_leave_17 : decode b_Md_leave 17 = .ok (.lcmp, 1) := by decide +kernel
theorem d_Md_leave_18 : decode b_Md_leave 18 = .ok (.ifCond .ge 13, 3) := by decide +kernel
theorem d_Md_leave_21 : decode b_Md_leave 21 = .ok (.aload_n 0, 1) := by decide +kernel
theorem d_Md_leave_22 : decode b_Md_leave 22 = .ok (.aload_n 0, 1) := by decide +kernel
theorem d_Md_leave_23 : decode b_Md_leave 23 = .ok (.getfield 28, 3) := by decide +kernel
theorem d_Md_leave_26 : decode b_Md_leave 26 = .ok (.iconst 0, 1) := by decide +kernel
theorem d_Md_leave_27 : decode b_Md_leave 27 = .ok (.laload, 1) := by decide +kernel
theorem d_Md_leave_28 : decode b_Md_leave 28 = .ok (.putfield 176, 3) := by decide +kernel
theorem d_Md_leave_31 : decode b_Md_leave 31 = .ok (.aload_n 0, 1) := by decide +kernel
theorem d_Md_leave_32 : decode b_Md_leave 32 = .ok (.getfield 173, 3) := by decide +kernel
theorem d_Md_leave_35 : decode b_Md_leave 35 = .ok (.ifCond .eq 17, 3) := by decide +kernel
theorem d_Md_leave_38 : decode b_Md_leave 38 = .ok (.aload_n 0, 1) := by decide +kernel
theorem d_Md_leave_39 : decode b_Md_leave 39 = .ok (.getfield 32, 3) := by decide +kernel
theorem d_Md_leave_42 : decode b_Md_leave 42 = .ok (.iconst 0, 1) := by decide +kernel
theorem d_Md_leave_43 : decode b_Md_leave 43 = .ok (.laload, 1) := by decide +kernel
theorem d_Md_leave_44 : decode b_Md_leave 44 = .ok (.aload_n 0, 1) := by decide +kernel
theorem d_Md_leave_45 : decode b_Md_leave 45 = .ok (.getfield 180, 3) := by decide +kernel
theorem d_Md_leave_48 : decode b_Md_leave 48 = .ok (.lcmp, 1) := by decide +kernel
theorem d_Md_leave_49 : decode b_Md_leave 49 = .ok (.ifCond .le 13, 3) := by decide +kernel
theorem d_Md_leave_52 : decode b_Md_leave 52 = .ok (.aload_n 0, 1) := by decide +kernel
theorem d_Md_leave_53 : decode b_Md_leave 53 = .ok (.aload_n 0, 1) := by decide +kernel
theorem d_Md_leave_54 : decode b_Md_leave 54 = .ok (.getfield 32, 3) := by decide +kernel
theorem d_Md_leave_57 : decode b_Md_leave 57 = .ok (.iconst 0, 1) := by decide +kernel
theorem d_Md_leave_58 : decode b_Md_leave 58 = .ok (.laload, 1) := by decide +kernel
theorem d_Md_leave_59 : decode b_Md_leave 59 = .ok (.putfield 180, 3) := by decide +kernel
theorem d_Md_leave_62 : decode b_Md_leave 62 = .ok (.aload_n 0, 1) := by decide +kernel
theorem d_Md_leave_63 : decode b_Md_leave 63 = .ok (.iconst 1, 1) := by decide +kernel
theorem d_Md_leave_64 : decode b_Md_leave 64 = .ok (.putfield 173, 3) := by decide +kernel
theorem d_Md_leave_67 : decode b_Md_leave 67 = .ok (.return_, 1) := by decide +kernel
theorem d_Md_goOn_0 : decode b_Md_goOn 0 = .ok (.aload_n 0, 1) := by decide +kernel
theorem d_Md_goOn_1 : decode b_Md_goOn 1 = .ok (.getfield 7, 3) := by decide +kernel
theorem d_Md_goOn_4 : decode b_Md_goOn 4 = .ok (.iload_n 1, 1) := by decide +kernel
theorem d_Md_goOn_5 : decode b_Md_goOn 5 = .ok (.iaload, 1) := by decide +kernel
theorem d_Md_goOn_6 : decode b_Md_goOn 6 = .ok (.istore_n 2, 1) := by decide +kernel
theorem d_Md_goOn_7 : decode b_Md_goOn 7 = .ok (.aload_n 0, 1) := by decide +kernel
theorem d_Md_goOn_8 : decode b_Md_goOn 8 = .ok (.getfield 13, 3) := by decide +kernel
theorem d_Md_goOn_11 : decode b_Md_goOn 11 = .ok (.iload_n 1, 1) := by decide +kernel
theorem d_Md_goOn_12 : decode b_Md_goOn 12 = .ok (.iaload, 1) := by decide +kernel
theorem d_Md_goOn_13 : decode b_Md_goOn 13 = .ok (.istore_n 3, 1) := by decide +kernel
theorem d_Md_goOn_14 : decode b_Md_goOn 14 = .ok (.aload_n 0, 1) := by decide +kernel
theorem d_Md_goOn_15 : decode b_Md_goOn 15 = .ok (.iload_n 1, 1) := by decide +kernel
theorem d_Md_goOn_16 : decode b_Md_goOn 16 = .ok (.iconst 1, 1) := by decide +kernel
theorem d_Md_goOn_17 : decode b_Md_goOn 17 = .ok (.iadd, 1) := by decide +kernel
theorem d_Md_goOn_18 : decode b_Md_goOn 18 = .ok (.putfield 140, 3) := by decide +kernel
theorem d_Md_goOn_21 : decode b_Md_goOn 21 = .ok (.iload_n 2, 1) := by decide +kernel
theorem d_Md_goOn_22 : decode b_Md_goOn 22 = .ok (.ifCond .ne 23, 3) := by decide +kernel
theorem d_Md_goOn_25 : decode b_Md_goOn 25 = .ok (.aload_n 0, 1) := by decide +kernel
theorem d_Md_goOn_26 : decode b_Md_goOn 26 = .ok (.iload_n 3, 1) := by decide +kernel
theorem d_Md_goOn_27 : decode b_Md_goOn 27 = .ok (.iconst 1, 1) := by decide +kernel
theorem d_Md_goOn_28 : decode b_Md_goOn 28 = .ok (.aload_n 0, 1) := by decide +kernel
theorem d_Md_goOn_29 : decode b_Md_goOn 29 = .ok (.getfield 19, 3) := by decide +kernel
theorem d_Md_goOn_32 : decode b_Md_goOn 32 = .ok (.iload_n 1, 1) := by decide +kernel
theorem d_Md_goOn_33 : decode b_Md_goOn 33 = .ok (.iaload, 1) := by decide +kernel
theorem d_Md_goOn_34 : decode b_Md_goOn 34 = .ok (.i2l, 1) := by decide +kernel
theorem d_Md_goOn_35 : decode b_Md_goOn 35 = .ok (.aload_n 0, 1) := by decide +kernel
theorem d_Md_goOn_36 : decode b_Md_goOn 36 = .ok (.getfield 19, 3) := by decide +kernel
theorem d_Md_goOn_39 : decode b_Md_goOn 39 = .ok (.iload_n 1, 1) := by decide +kernel
theorem d_Md_goOn_40 : decode b_Md_goOn 40 = .ok (.iaload, 1) := by decide +kernel
theorem d_Md_goOn_41 : decode b_Md_goOn 41 = .ok (.i2l, 1) := by decide +kernel
theorem d_Md_goOn_42 : decode b_Md_goOn 42 = .ok (.invokevirtual 83, 3) := by decide +kernel
theorem d_Md_goOn_45 : decode b_Md_goOn 45 = .ok (.iload_n 2, 1) := by decide +kernel
theorem d_Md_goOn_46 : decode b_Md_goOn 46 = .ok (.iconst 1, 1) := by decide +kernel
theorem d_Md_goOn_47 : decode b_Md_goOn 47 = .ok (.if_icmp .ne 14, 3) := by decide +kernel
theorem d_Md_goOn_50 : decode b_Md_goOn 50 = .ok (.aload_n 0, 1) := by decide +kernel
theorem d_Md_goOn_51 : decode b_Md_goOn 51 = .ok (.aload_n 0, 1) := by decide +kernel
theorem d_Md_goOn_52 : decode b_Md_goOn 52 = .ok (.getfield 16, 3) := by decide +kernel
theorem d_Md_goOn_55 : decode b_Md_goOn 55 = .ok (.iload_n 1, 1) := by decide +kernel
theorem d_Md_goOn_56 : decode b_Md_goOn 56 = .ok (.iaload, 1) := by decide +kernel
theorem d_Md_goOn_57 : decode b_Md_goOn 57 = .ok (.iload_n 3, 1) := by decide +kernel
theorem d_Md_goOn_58 : decode b_Md_goOn 58 = .ok (.invokevirtual 161, 3) := by decide +kernel
theorem d_Md_goOn_61 : decode b_Md_goOn 61 = .ok (.iload_n 2, 1) := by decide +kernel
theorem d_Md_goOn_62 : decode b_Md_goOn 62 = .ok (.iconst 2, 1) := by decide +kernel
theorem d_Md_goOn_63 : decode b_Md_goOn 63 = .ok (.if_icmp .ne 22, 3) := by decide +kernel
theorem d_Md_goOn_66 : decode b_Md_goOn 66 = .ok (.aload_n 0, 1) := by decide +kernel
theorem d_Md_goOn_67 : decode b_Md_goOn 67 = .ok (.iload_n 3, 1) := by decide +kernel
theorem d_Md_goOn_68 : decode b_Md_goOn 68 = .ok (.aload_n 0, 1) := by decide +kernel
theorem d_Md_goOn_69 : decode b_Md_goOn 69 = .ok (.getfield 19, 3) := by decide +kernel
theorem d_Md_goOn_72 : decode b_Md_goOn 72 = .ok (.iload_n 1, 1) := by decide +kernel
theorem d_Md_goOn_73 : decode b_Md_goOn 73 = .ok (.iaload, 1) := by decide +kernel
theorem d_Md_goOn_74 : decode b_Md_goOn 74 = .ok (.i2l, 1) := by decide +kernel
theorem d_Md_goOn_75 : decode b_Md_goOn 75 = .ok (.aload_n 0, 1) := by decide +kernel
theorem d_Md_goOn_76 : decode b_Md_goOn 76 = .ok (.getfield 19, 3) := by decide +kernel
theorem d_Md_goOn_79 : decode b_Md_goOn 79 = .ok (.iload_n 1, 1) := by decide +kernel
theorem d_Md_goOn_80 : decode b_Md_goOn 80 = .ok (.iaload, 1) := by decide +kernel
theorem d_Md_goOn_81 : decode b_Md_goOn 81 = .ok (.i2l, 1) := by decide +kernel
theorem d_Md_goOn_82 : decode b_Md_goOn 82 = .ok (.invokevirtual 183, 3) := by decide +kernel
theorem d_Md_goOn_85 : decode b_Md_goOn 85 = .ok (.iload_n 2, 1) := by decide +kernel
theorem d_Md_goOn_86 : decode b_Md_goOn 86 = .ok (.iconst 3, 1) := by decide +kernel
theorem d_Md_goOn_87 : decode b_Md_goOn 87 = .ok (.if_icmp .ne 30, 3) := by decide +kernel
theorem d_Md_goOn_90 : decode b_Md_goOn 90 = .ok (.aload_n 0, 1) := by decide +kernel
theorem d_Md_goOn_91 : decode b_Md_goOn 91 = .ok (.iload_n 3, 1) := by decide +kernel
theorem d_Md_goOn_92 : decode b_Md_goOn 92 = .ok (.aload_n 0, 1) := by decide +kernel
theorem d_Md_goOn_93 : decode b_Md_goOn 93 = .ok (.getfield 28, 3) := by decide +kernel
theorem d_Md_goOn_96 : decode b_Md_goOn 96 = .ok (.aload_n 0, 1) := by decide +kernel
theorem d_Md_goOn_97 : decode b_Md_goOn 97 = .ok (.getfield 16, 3) := by decide +kernel
theorem d_Md_goOn_100 : decode b_Md_goOn 100 = .ok (.iload_n 1, 1) := by decide +kernel
theorem d_Md_goOn_101 : decode b_Md_goOn 101 = .ok (.iaload, 1) := by decide +kernel
theorem d_Md_goOn_102 : decode b_Md_goOn 102 = .ok (.laload, 1) := by decide +kernel
theorem d_Md_goOn_103 : decode b_Md_goOn 103 = .ok (.aload_n 0, 1) := by decide +kernel
theorem d_Md_goOn_104 : decode b_Md_goOn 104 = .ok (.getfield 32, 3) := by decide +kernel
theorem d_Md_goOn_107 : decode b_Md_goOn 107 = .ok (.aload_n 0, 1) := by decide +kernel
theorem d_Md_goOn_108 : decode b_Md_goOn 108 = .ok (.getfield 16, 3) := by decide +kernel
theorem d_Md_goOn_111 : decode b_Md_goOn 111 = .ok (.iload_n 1, 1) := by decide +kernel
theorem d_Md_goOn_112 : decode b_Md_goOn 112 = .ok (.iaload, 1) := by decide +kernel
theorem d_Md_goOn_113 : decode b_Md_goOn 113 = .ok (.laload, 1) := by decide +kernel
theorem d_Md_goOn_114 : decode b_Md_goOn 114 = .ok (.invokevirtual 183, 3) := by decide +kernel
theorem d_Md_goOn_117 : decode b_Md_goOn 117 = .ok (.iload_n 2, 1) := by decide +kernel
theorem d_Md_goOn_118 : decode b_Md_goOn 118 = .ok (.iconst 4, 1) := by decide +kernel
theorem d_Md_goOn_119 : decode b_Md_goOn 119 = .ok (.if_icmp .ne 14, 3) := by decide +kernel
theorem d_Md_goOn_122 : decode b_Md_goOn 122 = .ok (.aload_n 0, 1) := by decide +kernel
theorem d_Md_goOn_123 : decode b_Md_goOn 123 = .ok (.iload_n 3, 1) := by decide +kernel
theorem d_Md_goOn_124 : decode b_Md_goOn 124 = .ok (.aload_n 0, 1) := by decide +kernel
theorem d_Md_goOn_125 : decode b_Md_goOn 125 = .ok (.getfield 16, 3) := by decide +kernel
theorem d_Md_goOn_128 : decode b_Md_goOn 128 = .ok (.iload_n 1, 1) := by decide +kernel
theorem d_Md_goOn_129 : decode b_Md_goOn 129 = .ok (.iaload, 1) := by decide +kernel
theorem d_Md_goOn_130 : decode b_Md_goOn 130 = .ok (.invokevirtual 186, 3) := by decide +kernel
theorem d_Md_goOn_133 : decode b_Md_goOn 133 = .ok (.iload_n 2, 1) := by decide +kernel
theorem d_Md_goOn_134 : decode b_Md_goOn 134 = .ok (.iconst 4, 1) := by decide +kernel
theorem d_Md_goOn_135 : decode b_Md_goOn 135 = .ok (.if_icmp .le 22, 3) := by decide +kernel
theorem d_Md_goOn_138 : decode b_Md_goOn 138 = .ok (.iload_n 2, 1) := by decide +kernel
theorem d_Md_goOn_139 : decode b_Md_goOn 139 = .ok (.bipush 10, 2) := by decide +kernel
theorem d_Md_goOn_141 : decode b_Md_goOn 141 = .ok (.if_icmp .ge 16, 3) := by decide +kernel
theorem d_Md_goOn_144 : decode b_Md_goOn 144 = .ok (.aload_n 0, 1) := by decide +kernel
theorem d_Md_goOn_145 : decode b_Md_goOn 145 = .ok (.iload_n 2, 1) := by decide +kernel
theorem d_Md_goOn_146 : decode b_Md_goOn 146 = .ok (.iload_n 3, 1) := by decide +kernel
theorem d_Md_goOn_147 : decode b_Md_goOn 147 = .ok (.aload_n 0, 1) := by decide +kernel
theorem d_Md_goOn_148 : decode b_Md_goOn 148 = .ok (.getfield 19, 3) := by decide +kernel
theorem d_Md_goOn_151 : decode b_Md_goOn 151 = .ok (.iload_n 1, 1) := by decide +kernel
theorem d_Md_goOn_152 : decode b_Md_goOn 152 = .ok (.iaload, 1) := by decide +kernel
theorem d_Md_goOn_153 : decode b_Md_goOn 153 = .ok (.i2l, 1) := by decide +kernel
theorem d_Md_goOn_154 : decode b_Md_goOn 154 = .ok (.invokevirtual 189, 3) := by decide +kernel
theorem d_Md_goOn_157 : decode b_Md_goOn 157 = .ok (.iload_n 2, 1) := by decide +kernel
theorem d_Md_goOn_158 : decode b_Md_goOn 158 = .ok (.bipush 9, 2) := by decide +kernel
theorem d_Md_goOn_160 : decode b_Md_goOn 160 = .ok (.if_icmp .le 14, 3) := by decide +kernel
theorem d_Md_goOn_163 : decode b_Md_goOn 163 = .ok (.iload_n 2, 1) := by decide +kernel
theorem d_Md_goOn_164 : decode b_Md_goOn 164 = .ok (.bipush 13, 2) := by decide +kernel
theorem d_Md_goOn_166 : decode b_Md_goOn 166 = .ok (.if_icmp .ge 8, 3) := by decide +kernel
theorem d_Md_goOn_169 : decode b_Md_goOn 169 = .ok (.aload_n 0, 1) := by decide +kernel
theorem d_Md_goOn_170 : decode b_Md_goOn 170 = .ok (.iload_n 1, 1) := by decide +kernel
theorem d_Md_goOn_171 : decode b_Md_goOn 171 = .ok (.invokevirtual 193, 3) := by decide +kernel
theorem d_Md_goOn_174 : decode b_Md_goOn 174 = .ok (.iload_n 2, 1) := by decide +kernel
theorem d_Md_goOn_175 : decode b_Md_goOn 175 = .ok (.bipush 13, 2) := by decide +kernel
theorem d_Md_goOn_177 : decode b_Md_goOn 177 = .ok (.if_icmp .ne 13, 3) := by decide +kernel
theorem d_Md_goOn_180 : decode b_Md_goOn 180 = .ok (.aload_n 0, 1) := by decide +kernel
theorem d_Md_goOn_181 : decode b_Md_goOn 181 = .ok (.aload_n 0, 1) := by decide +kernel
theorem d_Md_goOn_182 : decode b_Md_goOn 182 = .ok (.getfield 22, 3) := by decide +kernel
theorem d_Md_goOn_185 : decode b_Md_goOn 185 = .ok (.iload_n 1, 1) := by decide +kernel
theorem d_Md_goOn_186 : decode b_Md_goOn 186 = .ok (.iaload, 1) := by decide +kernel
theorem d_Md_goOn_187 : decode b_Md_goOn 187 = .ok (.putfield 140, 3) := by decide +kernel
theorem d_Md_goOn_190 : decode b_Md_goOn 190 = .ok (.iload_n 2, 1) := by decide +kernel
theorem d_Md_goOn_191 : decode b_Md_goOn 191 = .ok (.bipush 14, 2) := by decide +kernel
theorem d_Md_goOn_193 : decode b_Md_goOn 193 = .ok (.if_icmp .ne 8, 3) := by decide +kernel
theorem d_Md_goOn_196 : decode b_Md_goOn 196 = .ok (.aload_n 0, 1) := by decide +kernel
theorem d_Md_goOn_197 : decode b_Md_goOn 197 = .ok (.iload_n 1, 1) := by decide +kernel
theorem d_Md_goOn_198 : decode b_Md_goOn 198 = .ok (.invokevirtual 196, 3) := by decide +kernel
theorem d_Md_goOn_201 : decode b_Md_goOn 201 = .ok (.iload_n 2, 1) := by decide +kernel
theorem d_Md_goOn_202 : decode b_Md_goOn 202 = .ok (.bipush 15, 2) := by decide +kernel
theorem d_Md_goOn_204 : decode b_Md_goOn 204 = .ok (.if_icmp .ne 8, 3) := by decide +kernel
theorem d_Md_goOn_207 : decode b_Md_goOn 207 = .ok (.aload_n 0, 1) := by decide +kernel
theorem d_Md_goOn_208 : decode b_Md_goOn 208 = .ok (.iload_n 1, 1) := by decide +kernel
theorem d_Md_goOn_209 : decode b_Md_goOn 209 = .ok (.invokevirtual 199, 3) := by decide +kernel
theorem d_Md_goOn_212 : decode b_Md_goOn 212 = .ok (.iload_n 2, 1) := by decide +kernel
theorem d_Md_goOn_213 : decode b_Md_goOn 213 = .ok (.bipush 16, 2) := by decide +kernel
theorem d_Md_goOn_215 : decode b_Md_goOn 215 = .ok (.if_icmp .ne 13, 3) := by decide +kernel
theorem d_Md_goOn_218 : decode b_Md_goOn 218 = .ok (.aload_n 0, 1) := by decide +kernel
theorem d_Md_goOn_219 : decode b_Md_goOn 219 = .ok (.aload_n 0, 1) := by decide +kernel
theorem d_Md_goOn_220 : decode b_Md_goOn 220 = .ok (.getfield 19, 3) := by decide +kernel
theorem d_Md_goOn_223 : decode b_Md_goOn 223 = .ok (.iload_n 1, 1) := by decide +kernel
theorem d_Md_goOn_224 : decode b_Md_goOn 224 = .ok (.iaload, 1) := by decide +kernel
theorem d_Md_goOn_225 : decode b_Md_goOn 225 = .ok (.invokevirtual 202, 3) := by decide +kernel
theorem d_Md_goOn_228 : decode b_Md_goOn 228 = .ok (.iload_n 2, 1) := by decide +kernel
theorem d_Md_goOn_229 : decode b_Md_goOn 229 = .ok (.bipush 17, 2) := by decide +kernel
theorem d_Md_goOn_231 : decode b_Md_goOn 231 = .ok (.if_icmp .eq 5, 3) := by decide +kernel
theorem d_Md_goOn_234 : decode b_Md_goOn 234 = .ok (.iconst 1, 1) := by decide +kernel
theorem d_Md_goOn_235 : decode b_Md_goOn 235 = .ok (.ireturn, 1) := by decide +kernel
theorem d_Md_goOn_236 : decode b_Md_goOn 236 = .ok (.aload_n 0, 1) := by decide +kernel
theorem d_Md_goOn_237 : decode b_Md_goOn 237 = .ok (.invokevirtual 205, 3) := by decide +kernel
theorem d_Md_goOn_240 : decode b_Md_goOn 240 = .ok (.aload_n 0, 1) := by decide +kernel
theorem d_Md_goOn_241 : decode b_Md_goOn 241 = .ok (.getfield 137, 3) := by decide +kernel
theorem d_Md_goOn_244 : decode b_Md_goOn 244 = .ok (.ifCond .ne 5, 3) := by decide +kernel
theorem d_Md_goOn_247 : decode b_Md_goOn 247 = .ok (.iconst 0, 1) := by decide +kernel
theorem d_Md_goOn_248 : decode b_Md_goOn 248 = .ok (.ireturn, 1) := by decide +kernel
theorem d_Md_goOn_249 : decode b_Md_goOn 249 = .ok (.aload_n 0, 1) := by decide +kernel
theorem d_Md_goOn_250 : decode b_Md_goOn 250 = .ok (.invokevirtual 170, 3) := by decide +kernel
theorem d_Md_goOn_253 : decode b_Md_goOn 253 = .ok (.iconst 1, 1) := by decide +kernel
theorem d_Md_goOn_254 : decode b_Md_goOn 254 = .ok (.ireturn, 1) := by decide +kernel
theorem d_Md_check_0 : decode b_Md_check 0 = .ok (.aload_n 0, 1) := by decide +kernel
theorem d_Md_check_1 : decode b_Md_check 1 = .ok (.iconst 0, 1) := by decide +kernel
theorem d_Md_check_2 : decode b_Md_check 2 = .ok (.putfield 50, 3) := by decide +kernel
theorem d_Md_check_5 : decode b_Md_check 5 = .ok (.aload_n 0, 1) := by decide +kernel
theorem d_Md_check_6 : decode b_Md_check 6 = .ok (.iconst 0, 1) := by decide +kernel
theorem d_Md_check_7 : decode b_Md_check 7 = .ok (.putfield 64, 3) := by decide +kernel
theorem d_Md_check_10 : decode b_Md_check 10 = .ok (.aload_n 0, 1) := by decide +kernel
theorem d_Md_check_11 : decode b_Md_check 11 = .ok (.iconst 0, 1) := by decide +kernel
theorem d_Md_check_12 : decode b_Md_check 12 = .ok (.putfield 173, 3) := by decide +kernel
theorem d_Md_check_15 : decode b_Md_check 15 = .ok (.aload_n 0, 1) := by decide +kernel
theorem d_Md_check_16 : decode b_Md_check 16 = .ok (.iconst 0, 1) := by decide +kernel
theorem d_Md_check_17 : decode b_Md_check 17 = .ok (.putfield 208, 3) := by decide +kernel
theorem d_Md_check_20 : decode b_Md_check 20 = .ok (.aload_n 0, 1) := by decide +kernel
theorem d_Md_check_21 : decode b_Md_check 21 = .ok (.iconst 0, 1) := by decide +kernel
theorem d_Md_check_22 : decode b_Md_check 22 = .ok (.putfield 137, 3) := by decide +kernel
theorem d_Md_check_25 : decode b_Md_check 25 = .ok (.aload_n 0, 1) := by decide +kernel
theorem d_Md_check_26 : decode b_Md_check 26 = .ok (.iconst 0, 1) := by decide +kernel
theorem d_Md_check_27 : decode b_Md_check 27 = .ok (.putfield 140, 3) := by decide +kernel
theorem d_Md_check_30 : decode b_Md_check 30 = .ok (.iconst 0, 1) := by decide +kernel
theorem d_Md_check_31 : decode b_Md_check 31 = .ok (.istore_n 1, 1) := by decide +kernel
theorem d_Md_check_32 : decode b_Md_check 32 = .ok (.iload_n 1, 1) := by decide +kernel
theorem d_Md_check_33 : decode b_Md_check 33 = .ok (.bipush 12, 2) := by decide +kernel
theorem d_Md_check_35 : decode b_Md_check 35 = .ok (.if_icmp .ge 17, 3) := by decide +kernel
theorem d_Md_check_38 : decode b_Md_check 38 = .ok (.aload_n 0, 1) := by decide +kernel
theorem d_Md_check_39 : decode b_Md_check 39 = .ok (.iload_n 1, 1) := by decide +kernel
theorem d_Md_check_40 : decode b_Md_check 40 = .ok (.iconst 0, 1) := by decide +kernel
theorem d_Md_check_41 : decode b_Md_check 41 = .ok (.lconst 0, 1) := by decide +kernel
theorem d_Md_check_42 : decode b_Md_check 42 = .ok (.lconst 0, 1) := by decide +kernel
theorem d_Md_check_43 : decode b_Md_check 43 = .ok (.invokevirtual 83, 3) := by decide +kernel
theorem d_Md_check_46 : decode b_Md_check 46 = .ok (.iinc 1 1, 3) := by decide +kernel
theorem d_Md_check_49 : decode b_Md_check 49 = .ok (.goto (-17), 3) := by decide +kernel
theorem d_Md_check_52 : decode b_Md_check 52 = .ok (.aload_n 0, 1) := by decide +kernel
theorem d_Md_check_53 : decode b_Md_check 53 = .ok (.iconst 1, 1) := by decide +kernel
theorem d_Md_check_54 : decode b_Md_check 54 = .ok (.invokevirtual 143, 3) := by decide +kernel
theorem d_Md_check_57 : decode b_Md_check 57 = .ok (.aload_n 0, 1) := by decide +kernel
theorem d_Md_check_58 : decode b_Md_check 58 = .ok (.iconst 2, 1) := by decide +kernel
theorem d_Md_check_59 : decode b_Md_check 59 = .ok (.iconst 2, 1) := by decide +kernel
theorem d_Md_check_60 : decode b_Md_check 60 = .ok (.lconst 0, 1) := by decide +kernel
theorem d_Md_check_61 : decode b_Md_check 61 = .ok (.lconst 0, 1) := by decide +kernel
theorem d_Md_check_62 : decode b_Md_check 62 = .ok (.invokevirtual 83, 3) := by decide +kernel
theorem d_Md_check_65 : decode b_Md_check 65 = .ok (.iconst 1, 1) := by decide +kernel
theorem d_Md_check_66 : decode b_Md_check 66 = .ok (.istore_n 1, 1) := by decide +kernel
theorem d_Md_check_67 : decode b_Md_check 67 = .ok (.iload_n 1, 1) := by decide +kernel
theorem d_Md_check_68 : decode b_Md_check 68 = .ok (.ifCond .eq 75, 3) := by decide +kernel
theorem d_Md_check_71 : decode b_Md_check 71 = .ok (.aload_n 0, 1) := by decide +kernel
theorem d_Md_check_72 : decode b_Md_check 72 = .ok (.getfield 208, 3) := by decide +kernel
theorem d_Md_check_75 : decode b_Md_check 75 = .ok (.sipush 300, 3) := by decide +kernel
theorem d_Md_check_78 : decode b_Md_check 78 = .ok (.if_icmp .ne 10, 3) := by decide +kernel
theorem d_Md_check_81 : decode b_Md_check 81 = .ok (.aload_n 0, 1) := by decide +kernel
theorem d_Md_check_82 : decode b_Md_check 82 = .ok (.iconst 2, 1) := by decide +kernel
theorem d_Md_check_83 : decode b_Md_check 83 = .ok (.putfield 50, 3) := by decide +kernel
theorem d_Md_check_86 : decode b_Md_check 86 = .ok (.iconst 0, 1) := by decide +kernel
theorem d_Md_check_87 : decode b_Md_check 87 = .ok (.ireturn, 1) := by decide +kernel
theorem d_Md_check_88 : decode b_Md_check 88 = .ok (.aload_n 0, 1) := by decide +kernel
theorem d_Md_check_89 : decode b_Md_check 89 = .ok (.dup, 1) := by decide +kernel
theorem d_Md_check_90 : decode b_Md_check 90 = .ok (.getfield 208, 3) := by decide +kernel
theorem d_Md_check_93 : decode b_Md_check 93 = .ok (.iconst 1, 1) := by decide +kernel
theorem d_Md_check_94 : decode b_Md_check 94 = .ok (.iadd, 1) := by decide +kernel
theorem d_Md_check_95 : decode b_Md_check 95 = .ok (.putfield 208, 3) := by decide +kernel
theorem d_Md_check_98 : decode b_Md_check 98 = .ok (.aload_n 0, 1) := by decide +kernel
theorem d_Md_check_99 : decode b_Md_check 99 = .ok (.aload_n 0, 1) := by decide +kernel
theorem d_Md_check_100 : decode b_Md_check 100 = .ok (.getfield 140, 3) := by decide +kernel
theorem d_Md_check_103 : decode b_Md_check 103 = .ok (.invokevirtual 211, 3) := by decide +kernel
theorem d_Md_check_106 : decode b_Md_check 106 = .ok (.istore_n 2, 1) := by decide +kernel
theorem d_Md_check_107 : decode b_Md_check 107 = .ok (.iload_n 2, 1) := by decide +kernel
theorem d_Md_check_108 : decode b_Md_check 108 = .ok (.ifCond .le 23, 3) := by decide +kernel
theorem d_Md_check_111 : decode b_Md_check 111 = .ok (.aload_n 0, 1) := by decide +kernel
theorem d_Md_check_112 : decode b_Md_check 112 = .ok (.iload_n 2, 1) := by decide +kernel
theorem d_Md_check_113 : decode b_Md_check 113 = .ok (.putfield 215, 3) := by decide +kernel
theorem d_Md_check_116 : decode b_Md_check 116 = .ok (.aload_n 0, 1) := by decide +kernel
theorem d_Md_check_117 : decode b_Md_check 117 = .ok (.aload_n 0, 1) := by decide +kernel
theorem d_Md_check_118 : decode b_Md_check 118 = .ok (.getfield 140, 3) := by decide +kernel
theorem d_Md_check_121 : decode b_Md_check 121 = .ok (.putfield 218, 3) := by decide +kernel
theorem d_Md_check_124 : decode b_Md_check 124 = .ok (.aload_n 0, 1) := by decide +kernel
theorem d_Md_check_125 : decode b_Md_check 125 = .ok (.iconst 1, 1) := by decide +kernel
theorem d_Md_check_126 : decode b_Md_check 126 = .ok (.putfield 50, 3) := by decide +kernel
theorem d_Md_check_129 : decode b_Md_check 129 = .ok (.iconst 0, 1) := by decide +kernel
theorem d_Md_check_130 : decode b_Md_check 130 = .ok (.ireturn, 1) := by decide +kernel
theorem d_Md_check_131 : decode b_Md_check 131 = .ok (.aload_n 0, 1) := by decide +kernel
theorem d_Md_check_132 : decode b_Md_check 132 = .ok (.aload_n 0, 1) := by decide +kernel
theorem d_Md_check_133 : decode b_Md_check 133 = .ok (.getfield 140, 3) := by decide +kernel
theorem d_Md_check_136 : decode b_Md_check 136 = .ok (.invokevirtual 221, 3) := by decide +kernel
theorem d_Md_check_139 : decode b_Md_check 139 = .ok (.istore_n 1, 1) := by decide +kernel
theorem d_Md_check_140 : decode b_Md_check 140 = .ok (.goto (-73), 3) := by decide +kernel
theorem d_Md_check_143 : decode b_Md_check 143 = .ok (.aload_n 0, 1) := by decide +kernel
theorem d_Md_check_144 : decode b_Md_check 144 = .ok (.iconst 1, 1) := by decide +kernel
theorem d_Md_check_145 : decode b_Md_check 145 = .ok (.putfield 64, 3) := by decide +kernel
theorem d_Md_check_148 : decode b_Md_check 148 = .ok (.aload_n 0, 1) := by decide +kernel
theorem d_Md_check_149 : decode b_Md_check 149 = .ok (.getfield 208, 3) := by decide +kernel
theorem d_Md_check_152 : decode b_Md_check 152 = .ok (.ireturn, 1) := by decide +kernel
theorem d_Md_above_0 : decode b_Md_above 0 = .ok (.aload_n 0, 1) := by decide +kernel
theorem d_Md_above_1 : decode b_Md_above 1 = .ok (.getfield 7, 3) := by decide +kernel
theorem d_Md_above_4 : decode b_Md_above 4 = .ok (.iload_n 1, 1) := by decide +kernel
theorem d_Md_above_5 : decode b_Md_above 5 = .ok (.iaload, 1) := by decide +kernel
theorem d_Md_above_6 : decode b_Md_above 6 = .ok (.istore_n 2, 1) := by decide +kernel
theorem d_Md_above_7 : decode b_Md_above 7 = .ok (.aload_n 0, 1) := by decide +kernel
theorem d_Md_above_8 : decode b_Md_above 8 = .ok (.getfield 28, 3) := by decide +kernel
theorem d_Md_above_11 : decode b_Md_above 11 = .ok (.aload_n 0, 1) := by decide +kernel
theorem d_Md_above_12 : decode b_Md_above 12 = .ok (.getfield 13, 3) := by decide +kernel
theorem d_Md_above_15 : decode b_Md_above 15 = .ok (.iload_n 1, 1) := by decide +kernel
theorem d_Md_above_16 : decode b_Md_above 16 = .ok (.iaload, 1) := by decide +kernel
theorem d_Md_above_17 : decode b_Md_above 17 = .ok (.laload, 1) := by decide +kernel
theorem d_Md_above_18 : decode b_Md_above 18 = .ok (.lstore_n 3, 1) := by decide +kernel
theorem d_Md_above_19 : decode b_Md_above 19 = .ok (.iload_n 2, 1) := by decide +kernel
theorem d_Md_above_20 : decode b_Md_above 20 = .ok (.bipush 10, 2) := by decide +kernel
theorem d_Md_above_22 : decode b_Md_above 22 = .ok (.if_icmp .ne 36, 3) := by decide +kernel
theorem d_Md_above_25 : decode b_Md_above 25 = .ok (.aload_n 0, 1) := by decide +kernel
theorem d_Md_above_26 : decode b_Md_above 26 = .ok (.getfield 25, 3) := by decide +kernel
theorem d_Md_above_29 : decode b_Md_above 29 = .ok (.aload_n 0, 1) := by decide +kernel
theorem d_Md_above_30 : decode b_Md_above 30 = .ok (.getfield 13, 3) := by decide +kernel
theorem d_Md_above_33 : decode b_Md_above 33 = .ok (.iload_n 1, 1) := by decide +kernel
theorem d_Md_above_34 : decode b_Md_above 34 = .ok (.iaload, 1) := by decide +kernel
theorem d_Md_above_35 : decode b_Md_above 35 = .ok (.iaload, 1) := by decide +kernel
theorem d_Md_above_36 : decode b_Md_above 36 = .ok (.iconst 1, 1) := by decide +kernel
theorem d_Md_above_37 : decode b_Md_above 37 = .ok (.if_icmp .ne 19, 3) := by decide +kernel
theorem d_Md_above_40 : decode b_Md_above 40 = .ok (.lload_n 3, 1) := by decide +kernel
theorem d_Md_above_41 : decode b_Md_above 41 = .ok (.aload_n 0, 1) := by decide +kernel
theorem d_Md_above_42 : decode b_Md_above 42 = .ok (.getfield 19, 3) := by decide +kernel
theorem d_Md_above_45 : decode b_Md_above 45 = .ok (.iload_n 1, 1) := by decide +kernel
theorem d_Md_above_46 : decode b_Md_above 46 = .ok (.iaload, 1) := by decide +kernel
theorem d_Md_above_47 : decode b_Md_above 47 = .ok (.i2l, 1) := by decide +kernel
theorem d_Md_above_48 : decode b_Md_above 48 = .ok (.lcmp, 1) := by decide +kernel
theorem d_Md_above_49 : decode b_Md_above 49 = .ok (.ifCond .ne 7, 3) := by decide +kernel
theorem d_Md_above_52 : decode b_Md_above 52 = .ok (.iconst 1, 1) := by decide +kernel
theorem d_Md_above_53 : decode b_Md_above 53 = .ok (.goto 4, 3) := by decide +kernel
theorem d_Md_above_56 : decode b_Md_above 56 = .ok (.iconst 0, 1) := by decide +kernel
theorem d_Md_above_57 : decode b_Md_above 57 = .ok (.ireturn, 1) := by decide +kernel
theorem d_Md_above_58 : decode b_Md_above 58 = .ok (.iload_n 2, 1) := by decide +kernel
theorem d_Md_above_59 : decode b_Md_above 59 = .ok (.bipush 11, 2) := by decide +kernel
theorem d_Md_above_61 : decode b_Md_above 61 = .ok (.if_icmp .ne 23, 3) := by decide +kernel
theorem d_Md_above_64 : decode b_Md_above 64 = .ok (.lload_n 3, 1) := by decide +kernel
theorem d_Md_above_65 : decode b_Md_above 65 = .ok (.aload_n 0, 1) := by decide +kernel
theorem d_Md_above_66 : decode b_Md_above 66 = .ok (.getfield 19, 3) := by decide +kernel
theorem d_Md_above_69 : decode b_Md_above 69 = .ok (.iload_n 1, 1) := by decide +kernel
theorem d_Md_above_70 : decode b_Md_above 70 = .ok (.iaload, 1) := by decide +kernel
theorem d_Md_above_71 : decode b_Md_above 71 = .ok (.i2l, 1) := by decide +kernel
theorem d_Md_above_72 : decode b_Md_above 72 = .ok (.lcmp, 1) := by decide +kernel
theorem d_Md_above_73 : decode b_Md_above 73 = .ok (.ifCond .le 7, 3) := by decide +kernel
theorem d_Md_above_76 : decode b_Md_above 76 = .ok (.iconst 1, 1) := by decide +kernel
theorem d_Md_above_77 : decode b_Md_above 77 = .ok (.goto 28, 3) := by decide +kernel
theorem d_Md_above_80 : decode b_Md_above 80 = .ok (.iconst 0, 1) := by decide +kernel
theorem d_Md_above_81 : decode b_Md_above 81 = .ok (.goto 24, 3) := by decide +kernel
theorem d_Md_above_84 : decode b_Md_above 84 = .ok (.lload_n 3, 1) := by decide +kernel
theorem d_Md_above_85 : decode b_Md_above 85 = .ok (.aload_n 0, 1) := by decide +kernel
theorem d_Md_above_86 : decode b_Md_above 86 = .ok (.getfield 28, 3) := by decide +kernel
theorem d_Md_above_89 : decode b_Md_above 89 = .ok (.aload_n 0, 1) := by decide +kernel
theorem d_Md_above_90 : decode b_Md_above 90 = .ok (.getfield 16, 3) := by decide +kernel
theorem d_Md_above_93 : decode b_Md_above 93 = .ok (.iload_n 1, 1) := by decide +kernel
theorem d_Md_above_94 : decode b_Md_above 94 = .ok (.iaload, 1) := by decide +kernel
theorem d_Md_above_95 : decode b_Md_above 95 = .ok (.laload, 1) := by decide +kernel
theorem d_Md_above_96 : decode b_Md_above 96 = .ok (.lcmp, 1) := by decide +kernel
theorem d_Md_above_97 : decode b_Md_above 97 = .ok (.ifCond .ge 7, 3) := by decide +kernel
theorem d_Md_above_100 : decode b_Md_above 100 = .ok (.iconst 1, 1) := by decide +kernel
theorem d_Md_above_101 : decode b_Md_above 101 = .ok (.goto 4, 3) := by decide +kernel
theorem d_Md_above_104 : decode b_Md_above 104 = .ok (.iconst 0, 1) := by decide +kernel
theorem d_Md_above_105 : decode b_Md_above 105 = .ok (.ireturn, 1) := by decide +kernel
theorem d_Md_compute_0 : decode b_Md_compute 0 = .ok (.aload_n 0, 1) := by decide +kernel
theorem d_Md_compute_1 : decode b_Md_compute 1 = .ok (.getfield 7, 3) := by decide +kernel
theorem d_Md_compute_4 : decode b_Md_compute 4 = .ok (.iload_n 1, 1) := by decide +kernel
theorem d_Md_compute_5 : decode b_Md_compute 5 = .ok (.iaload, 1) := by decide +kernel
theorem d_Md_compute_6 : decode b_Md_compute 6 = .ok (.istore_n 2, 1) := by decide +kernel
theorem d_Md_compute_7 : decode b_Md_compute 7 = .ok (.aload_n 0, 1) := by decide +kernel
theorem d_Md_compute_8 : decode b_Md_compute 8 = .ok (.getfield 13, 3) := by decide +kernel
theorem d_Md_compute_11 : decode b_Md_compute 11 = .ok (.iload_n 1, 1) := by decide +kernel
theorem d_Md_compute_12 : decode b_Md_compute 12 = .ok (.iaload, 1) := by decide +kernel
theorem d_Md_compute_13 : decode b_Md_compute 13 = .ok (.istore_n 3, 1) := by decide +kernel
theorem d_Md_compute_14 : decode b_Md_compute 14 = .ok (.aload_n 0, 1) := by decide +kernel
theorem d_Md_compute_15 : decode b_Md_compute 15 = .ok (.getfield 19, 3) := by decide +kernel
theorem d_Md_compute_18 : decode b_Md_compute 18 = .ok (.iload_n 1, 1) := by decide +kernel
theorem d_Md_compute_19 : decode b_Md_compute 19 = .ok (.iaload, 1) := by decide +kernel
theorem d_Md_compute_20 : decode b_Md_compute 20 = .ok (.i2l, 1) := by decide +kernel
theorem d_Md_compute_21 : decode b_Md_compute 21 = .ok (.lstore 4, 2) := by decide +kernel
theorem d_Md_compute_23 : decode b_Md_compute 23 = .ok (.iload_n 2, 1) := by decide +kernel
theorem d_Md_compute_24 : decode b_Md_compute 24 = .ok (.iconst 2, 1) := by decide +kernel
theorem d_Md_compute_25 : decode b_Md_compute 25 = .ok (.if_icmp .ne 14, 3) := by decide +kernel
theorem d_Md_compute_28 : decode b_Md_compute 28 = .ok (.aload_n 0, 1) := by decide +kernel
theorem d_Md_compute_29 : decode b_Md_compute 29 = .ok (.getfield 28, 3) := by decide +kernel
theorem d_Md_compute_32 : decode b_Md_compute 32 = .ok (.iload_n 3, 1) := by decide +kernel
theorem d_Md_compute_33 : decode b_Md_compute 33 = .ok (.dup2, 1) := by decide +kernel
theorem d_Md_compute_34 : decode b_Md_compute 34 = .ok (.laload, 1) := by decide +kernel
theorem d_Md_compute_35 : decode b_Md_compute 35 = .ok (.lload 4, 2) := by decide +kernel
theorem d_Md_compute_37 : decode b_Md_compute 37 = .ok (.ladd, 1) := by decide +kernel
theorem d_Md_compute_38 : decode b_Md_compute 38 = .ok (.lastore, 1) := by decide +kernel
theorem d_Md_compute_39 : decode b_Md_compute 39 = .ok (.iload_n 2, 1) := by decide +kernel
theorem d_Md_compute_40 : decode b_Md_compute 40 = .ok (.iconst 3, 1) := by decide +kernel
theorem d_Md_compute_41 : decode b_Md_compute 41 = .ok (.if_icmp .ne 23, 3) := by decide +kernel
theorem d_Md_compute_44 : decode b_Md_compute 44 = .ok (.aload_n 0, 1) := by decide +kernel
theorem d_Md_compute_45 : decode b_Md_compute 45 = .ok (.getfield 28, 3) := by decide +kernel
theorem d_Md_compute_48 : decode b_Md_compute 48 = .ok (.iload_n 3, 1) := by decide +kernel
theorem d_Md_compute_49 : decode b_Md_compute 49 = .ok (.dup2, 1) := by decide +kernel
theorem d_Md_compute_50 : decode b_Md_compute 50 = .ok (.laload, 1) := by decide +kernel
theorem d_Md_compute_51 : decode b_Md_compute 51 = .ok (.aload_n 0, 1) := by decide +kernel
theorem d_Md_compute_52 : decode b_Md_compute 52 = .ok (.getfield 28, 3) := by decide +kernel
theorem d_Md_compute_55 : decode b_Md_compute 55 = .ok (.aload_n 0, 1) := by decide +kernel
theorem d_Md_compute_56 : decode b_Md_compute 56 = .ok (.getfield 16, 3) := by decide +kernel
theorem d_Md_compute_59 : decode b_Md_compute 59 = .ok (.iload_n 1, 1) := by decide +kernel
theorem d_Md_compute_60 : decode b_Md_compute 60 = .ok (.iaload, 1) := by decide +kernel
theorem d_Md_compute_61 : decode b_Md_compute 61 = .ok (.laload, 1) := by decide +kernel
theorem d_Md_compute_62 : decode b_Md_compute 62 = .ok (.ladd, 1) := by decide +kernel
theorem d_Md_compute_63 : decode b_Md_compute 63 = .ok (.lastore, 1) := by decide +kernel
theorem d_Md_compute_64 : decode b_Md_compute 64 = .ok (.iload_n 2, 1) := by decide +kernel
theorem d_Md_compute_65 : decode b_Md_compute 65 = .ok (.iconst 4, 1) := by decide +kernel
theorem d_Md_compute_66 : decode b_Md_compute 66 = .ok (.if_icmp .ne 23, 3) := by decide +kernel
theorem d_Md_compute_69 : decode b_Md_compute 69 = .ok (.aload_n 0, 1) := by decide +kernel
theorem d_Md_compute_70 : decode b_Md_compute 70 = .ok (.getfield 28, 3) := by decide +kernel
theorem d_Md_compute_73 : decode b_Md_compute 73 = .ok (.iload_n 3, 1) := by decide +kernel
theorem d_Md_compute_74 : decode b_Md_compute 74 = .ok (.dup2, 1) := by decide +kernel
theorem d_Md_compute_75 : decode b_Md_compute 75 = .ok (.laload, 1) := by decide +kernel
theorem d_Md_compute_76 : decode b_Md_compute 76 = .ok (.aload_n 0, 1) := by decide +kernel
theorem d_Md_compute_77 : decode b_Md_compute 77 = .ok (.getfield 28, 3) := by decide +kernel
theorem d_Md_compute_80 : decode b_Md_compute 80 = .ok (.aload_n 0, 1) := by decide +kernel
theorem d_Md_compute_81 : decode b_Md_compute 81 = .ok (.getfield 16, 3) := by decide +kernel
theorem d_Md_compute_84 : decode b_Md_compute 84 = .ok (.iload_n 1, 1) := by decide +kernel
theorem d_Md_compute_85 : decode b_Md_compute 85 = .ok (.iaload, 1) := by decide +kernel
theorem d_Md_compute_86 : decode b_Md_compute 86 = .ok (.laload, 1) := by decide +kernel
theorem d_Md_compute_87 : decode b_Md_compute 87 = .ok (.lsub, 1) := by decide +kernel
theorem d_Md_compute_88 : decode b_Md_compute 88 = .ok (.lastore, 1) := by decide +kernel
theorem d_Md_compute_89 : decode b_Md_compute 89 = .ok (.iload_n 2, 1) := by decide +kernel
theorem d_Md_compute_90 : decode b_Md_compute 90 = .ok (.iconst 5, 1) := by decide +kernel
theorem d_Md_compute_91 : decode b_Md_compute 91 = .ok (.if_icmp .ne 14, 3) := by decide +kernel
theorem d_Md_compute_94 : decode b_Md_compute 94 = .ok (.aload_n 0, 1) := by decide +kernel
theorem d_Md_compute_95 : decode b_Md_compute 95 = .ok (.getfield 28, 3) := by decide +kernel
theorem d_Md_compute_98 : decode b_Md_compute 98 = .ok (.iload_n 3, 1) := by decide +kernel
theorem d_Md_compute_99 : decode b_Md_compute 99 = .ok (.dup2, 1) := by decide +kernel
theorem d_Md_compute_100 : decode b_Md_compute 100 = .ok (.laload, 1) := by decide +kernel
theorem d_Md_compute_101 : decode b_Md_compute 101 = .ok (.lload 4, 2) := by decide +kernel
theorem d_Md_compute_103 : decode b_Md_compute 103 = .ok (.lmul, 1) := by decide +kernel
theorem d_Md_compute_104 : decode b_Md_compute 104 = .ok (.lastore, 1) := by decide +kernel
theorem d_Md_compute_105 : decode b_Md_compute 105 = .ok (.iload_n 2, 1) := by decide +kernel
theorem d_Md_compute_106 : decode b_Md_compute 106 = .ok (.bipush 6, 2) := by decide +kernel
theorem d_Md_compute_108 : decode b_Md_compute 108 = .ok (.if_icmp .ne 18, 3) := by decide +kernel
theorem d_Md_compute_111 : decode b_Md_compute 111 = .ok (.aload_n 0, 1) := by decide +kernel
theorem d_Md_compute_112 : decode b_Md_compute 112 = .ok (.getfield 28, 3) := by decide +kernel
theorem d_Md_compute_115 : decode b_Md_compute 115 = .ok (.iload_n 3, 1) := by decide +kernel
theorem d_Md_compute_116 : decode b_Md_compute 116 = .ok (.aload_n 0, 1) := by decide +kernel
theorem d_Md_compute_117 : decode b_Md_compute 117 = .ok (.getfield 28, 3) := by decide +kernel
theorem d_Md_compute_120 : decode b_Md_compute 120 = .ok (.iload_n 3, 1) := by decide +kernel
theorem d_Md_compute_121 : decode b_Md_compute 121 = .ok (.laload, 1) := by decide +kernel
theorem d_Md_compute_122 : decode b_Md_compute 122 = .ok (.lload 4, 2) := by decide +kernel
theorem d_Md_compute_124 : decode b_Md_compute 124 = .ok (.land, 1) := by decide +kernel
theorem d_Md_compute_125 : decode b_Md_compute 125 = .ok (.lastore, 1) := by decide +kernel
theorem d_Md_compute_126 : decode b_Md_compute 126 = .ok (.iload_n 2, 1) := by decide +kernel
theorem d_Md_compute_127 : decode b_Md_compute 127 = .ok (.bipush 7, 2) := by decide +kernel
theorem d_Md_compute_129 : decode b_Md_compute 129 = .ok (.if_icmp .ne 19, 3) := by decide +kernel
theorem d_Md_compute_132 : decode b_Md_compute 132 = .ok (.aload_n 0, 1) := by decide +kernel
theorem d_Md_compute_133 : decode b_Md_compute 133 = .ok (.getfield 28, 3) := by decide +kernel
theorem d_Md_compute_136 : decode b_Md_compute 136 = .ok (.iload_n 3, 1) := by decide +kernel
theorem d_Md_compute_137 : decode b_Md_compute 137 = .ok (.aload_n 0, 1) := by decide +kernel
theorem d_Md_compute_138 : decode b_Md_compute 138 = .ok (.getfield 28, 3) := by decide +kernel
theorem d_Md_compute_141 : decode b_Md_compute 141 = .ok (.iload_n 3, 1) := by decide +kernel
theorem d_Md_compute_142 : decode b_Md_compute 142 = .ok (.laload, 1) := by decide +kernel
theorem d_Md_compute_143 : decode b_Md_compute 143 = .ok (.lload 4, 2) := by decide +kernel
theorem d_Md_compute_145 : decode b_Md_compute 145 = .ok (.l2i, 1) := by decide +kernel
theorem d_Md_compute_146 : decode b_Md_compute 146 = .ok (.lshr, 1) := by decide +kernel
theorem d_Md_compute_147 : decode b_Md_compute 147 = .ok (.lastore, 1) := by decide +kernel
theorem d_Md_compute_148 : decode b_Md_compute 148 = .ok (.iload_n 2, 1) := by decide +kernel
theorem d_Md_compute_149 : decode b_Md_compute 149 = .ok (.bipush 8, 2) := by decide +kernel
theorem d_Md_compute_151 : decode b_Md_compute 151 = .ok (.if_icmp .ne 18, 3) := by decide +kernel
theorem d_Md_compute_154 : decode b_Md_compute 154 = .ok (.aload_n 0, 1) := by decide +kernel
theorem d_Md_compute_155 : decode b_Md_compute 155 = .ok (.getfield 28, 3) := by decide +kernel
theorem d_Md_compute_158 : decode b_Md_compute 158 = .ok (.iload_n 3, 1) := by decide +kernel
theorem d_Md_compute_159 : decode b_Md_compute 159 = .ok (.aload_n 0, 1) := by decide +kernel
theorem d_Md_compute_160 : decode b_Md_compute 160 = .ok (.getfield 28, 3) := by decide +kernel
theorem d_Md_compute_163 : decode b_Md_compute 163 = .ok (.iload_n 3, 1) := by decide +kernel
theorem d_Md_compute_164 : decode b_Md_compute 164 = .ok (.laload, 1) := by decide +kernel
theorem d_Md_compute_165 : decode b_Md_compute 165 = .ok (.lload 4, 2) := by decide +kernel
theorem d_Md_compute_167 : decode b_Md_compute 167 = .ok (.ldiv, 1) := by decide +kernel
theorem d_Md_compute_168 : decode b_Md_compute 168 = .ok (.lastore, 1) := by decide +kernel
theorem d_Md_compute_169 : decode b_Md_compute 169 = .ok (.iload_n 2, 1) := by decide +kernel
theorem d_Md_compute_170 : decode b_Md_compute 170 = .ok (.bipush 9, 2) := by decide +kernel
theorem d_Md_compute_172 : decode b_Md_compute 172 = .ok (.if_icmp .ne 16, 3) := by decide +kernel
theorem d_Md_compute_175 : decode b_Md_compute 175 = .ok (.aload_n 0, 1) := by decide +kernel
theorem d_Md_compute_176 : decode b_Md_compute 176 = .ok (.getfield 28, 3) := by decide +kernel
theorem d_Md_compute_179 : decode b_Md_compute 179 = .ok (.iload_n 3, 1) := by decide +kernel
theorem d_Md_compute_180 : decode b_Md_compute 180 = .ok (.aload_n 0, 1) := by decide +kernel
theorem d_Md_compute_181 : decode b_Md_compute 181 = .ok (.getfield 28, 3) := by decide +kernel
theorem d_Md_compute_184 : decode b_Md_compute 184 = .ok (.iload_n 3, 1) := by decide +kernel
theorem d_Md_compute_185 : decode b_Md_compute 185 = .ok (.laload, 1) := by decide +kernel
theorem d_Md_compute_186 : decode b_Md_compute 186 = .ok (.lneg, 1) := by decide +kernel
theorem d_Md_compute_187 : decode b_Md_compute 187 = .ok (.lastore, 1) := by decide +kernel
theorem d_Md_compute_188 : decode b_Md_compute 188 = .ok (.return_, 1) := by decide +kernel
theorem d_Md_transfer_0 : decode b_Md_transfer 0 = .ok (.iload_n 2, 1) := by decide +kernel
theorem d_Md_transfer_1 : decode b_Md_transfer 1 = .ok (.ifCond .eq 12, 3) := by decide +kernel
theorem d_Md_transfer_4 : decode b_Md_transfer 4 = .ok (.aload_n 0, 1) := by decide +kernel
theorem d_Md_transfer_5 : decode b_Md_transfer 5 = .ok (.getfield 16, 3) := by decide +kernel
theorem d_Md_transfer_8 : decode b_Md_transfer 8 = .ok (.iload_n 1, 1) := by decide +kernel
theorem d_Md_transfer_9 : decode b_Md_transfer 9 = .ok (.iaload, 1) := by decide +kernel
theorem d_Md_transfer_10 : decode b_Md_transfer 10 = .ok (.goto 9, 3) := by decide +kernel
theorem d_Md_transfer_13 : decode b_Md_transfer 13 = .ok (.aload_n 0, 1) := by decide +kernel
theorem d_Md_transfer_14 : decode b_Md_transfer 14 = .ok (.getfield 13, 3) := by decide +kernel
theorem d_Md_transfer_17 : decode b_Md_transfer 17 = .ok (.iload_n 1, 1) := by decide +kernel
theorem d_Md_transfer_18 : decode b_Md_transfer 18 = .ok (.iaload, 1) := by decide +kernel
theorem d_Md_transfer_19 : decode b_Md_transfer 19 = .ok (.istore_n 3, 1) := by decide +kernel
theorem d_Md_transfer_20 : decode b_Md_transfer 20 = .ok (.iload_n 2, 1) := by decide +kernel
theorem d_Md_transfer_21 : decode b_Md_transfer 21 = .ok (.ifCond .eq 12, 3) := by decide +kernel
theorem d_Md_transfer_24 : decode b_Md_transfer 24 = .ok (.aload_n 0, 1) := by decide +kernel
theorem d_Md_transfer_25 : decode b_Md_transfer 25 = .ok (.getfield 13, 3) := by decide +kernel
theorem d_Md_transfer_28 : decode b_Md_transfer 28 = .ok (.iload_n 1, 1) := by decide +kernel
theorem d_Md_transfer_29 : decode b_Md_transfer 29 = .ok (.iaload, 1) := by decide +kernel
theorem d_Md_transfer_30 : decode b_Md_transfer 30 = .ok (.goto 9, 3) := by decide +kernel
theorem d_Md_transfer_33 : decode b_Md_transfer 33 = .ok (.aload_n 0, 1) := by decide +kernel
theorem d_Md_transfer_34 : decode b_Md_transfer 34 = .ok (.getfield 16, 3) := by decide +kernel
theorem d_Md_transfer_37 : decode b_Md_transfer 37 = .ok (.iload_n 1, 1) := by decide +kernel
theorem d_Md_transfer_38 : decode b_Md_transfer 38 = .ok (.iaload, 1) := by decide +kernel
theorem d_Md_transfer_39 : decode b_Md_transfer 39 = .ok (.istore 4, 2) := by decide +kernel
theorem d_Md_transfer_41 : decode b_Md_transfer 41 = .ok (.aload_n 0, 1) := by decide +kernel
theorem d_Md_transfer_42 : decode b_Md_transfer 42 = .ok (.getfield 28, 3) := by decide +kernel
theorem d_Md_transfer_45 : decode b_Md_transfer 45 = .ok (.iload_n 3, 1) := by decide +kernel
theorem d_Md_transfer_46 : decode b_Md_transfer 46 = .ok (.laload, 1) := by decide +kernel
theorem d_Md_transfer_47 : decode b_Md_transfer 47 = .ok (.l2i, 1) := by decide +kernel
theorem d_Md_transfer_48 : decode b_Md_transfer 48 = .ok (.aload_n 0, 1) := by decide +kernel
theorem d_Md_transfer_49 : decode b_Md_transfer 49 = .ok (.getfield 19, 3) := by decide +kernel
theorem d_Md_transfer_52 : decode b_Md_transfer 52 = .ok (.iload_n 1, 1) := by decide +kernel
theorem d_Md_transfer_53 : decode b_Md_transfer 53 = .ok (.iaload, 1) := by decide +kernel
theorem d_Md_transfer_54 : decode b_Md_transfer 54 = .ok (.iadd, 1) := by decide +kernel
theorem d_Md_transfer_55 : decode b_Md_transfer 55 = .ok (.istore 5, 2) := by decide +kernel
theorem d_Md_transfer_57 : decode b_Md_transfer 57 = .ok (.aload_n 0, 1) := by decide +kernel
theorem d_Md_transfer_58 : decode b_Md_transfer 58 = .ok (.getfield 25, 3) := by decide +kernel
theorem d_Md_transfer_61 : decode b_Md_transfer 61 = .ok (.iload_n 3, 1) := by decide +kernel
theorem d_Md_transfer_62 : decode b_Md_transfer 62 = .ok (.iaload, 1) := by decide +kernel
theorem d_Md_transfer_63 : decode b_Md_transfer 63 = .ok (.iconst 3, 1) := by decide +kernel
theorem d_Md_transfer_64 : decode b_Md_transfer 64 = .ok (.if_icmp .ne 35, 3) := by decide +kernel
theorem d_Md_transfer_67 : decode b_Md_transfer 67 = .ok (.iload_n 2, 1) := by decide +kernel
theorem d_Md_transfer_68 : decode b_Md_transfer 68 = .ok (.ifCond .eq 31, 3) := by decide +kernel
theorem d_Md_transfer_71 : decode b_Md_transfer 71 = .ok (.aload_n 0, 1) := by decide +kernel
theorem d_Md_transfer_72 : decode b_Md_transfer 72 = .ok (.iload 4, 2) := by decide +kernel
theorem d_Md_transfer_74 : decode b_Md_transfer 74 = .ok (.iconst 1, 1) := by decide +kernel
theorem d_Md_transfer_75 : decode b_Md_transfer 75 = .ok (.aload_n 0, 1) := by decide +kernel
theorem d_Md_transfer_76 : decode b_Md_transfer 76 = .ok (.getfield 47, 3) := by decide +kernel
theorem d_Md_transfer_79 : decode b_Md_transfer 79 = .ok (.aload_n 0, 1) := by decide +kernel
theorem d_Md_transfer_80 : decode b_Md_transfer 80 = .ok (.getfield 32, 3) := by decide +kernel
theorem d_Md_transfer_83 : decode b_Md_transfer 83 = .ok (.iload_n 3, 1) := by decide +kernel
theorem d_Md_transfer_84 : decode b_Md_transfer 84 = .ok (.laload, 1) := by decide +kernel
theorem d_Md_transfer_85 : decode b_Md_transfer 85 = .ok (.l2i, 1) := by decide +kernel
theorem d_Md_transfer_86 : decode b_Md_transfer 86 = .ok (.iconst 2, 1) := by decide +kernel
theorem d_Md_transfer_87 : decode b_Md_transfer 87 = .ok (.imul, 1) := by decide +kernel
theorem d_Md_transfer_88 : decode b_Md_transfer 88 = .ok (.iload 5, 2) := by decide +kernel
theorem d_Md_transfer_90 : decode b_Md_transfer 90 = .ok (.iadd, 1) := by decide +kernel
theorem d_Md_transfer_91 : decode b_Md_transfer 91 = .ok (.laload, 1) := by decide +kernel
theorem d_Md_transfer_92 : decode b_Md_transfer 92 = .ok (.lconst 0, 1) := by decide +kernel
theorem d_Md_transfer_93 : decode b_Md_transfer 93 = .ok (.invokevirtual 83, 3) := by decide +kernel
theorem d_Md_transfer_96 : decode b_Md_transfer 96 = .ok (.goto 69, 3) := by decide +kernel
theorem d_Md_transfer_99 : decode b_Md_transfer 99 = .ok (.aload_n 0, 1) := by decide +kernel
theorem d_Md_transfer_100 : decode b_Md_transfer 100 = .ok (.getfield 25, 3) := by decide +kernel
theorem d_Md_transfer_103 : decode b_Md_transfer 103 = .ok (.iload_n 3, 1) := by decide +kernel
theorem d_Md_transfer_104 : decode b_Md_transfer 104 = .ok (.iaload, 1) := by decide +kernel
theorem d_Md_transfer_105 : decode b_Md_transfer 105 = .ok (.iconst 3, 1) := by decide +kernel
theorem d_Md_transfer_106 : decode b_Md_transfer 106 = .ok (.if_icmp .ne 30, 3) := by decide +kernel
theorem d_Md_transfer_109 : decode b_Md_transfer 109 = .ok (.aload_n 0, 1) := by decide +kernel
theorem d_Md_transfer_110 : decode b_Md_transfer 110 = .ok (.getfield 47, 3) := by decide +kernel
theorem d_Md_transfer_113 : decode b_Md_transfer 113 = .ok (.aload_n 0, 1) := by decide +kernel
theorem d_Md_transfer_114 : decode b_Md_transfer 114 = .ok (.getfield 32, 3) := by decide +kernel
theorem d_Md_transfer_117 : decode b_Md_transfer 117 = .ok (.iload_n 3, 1) := by decide +kernel
theorem d_Md_transfer_118 : decode b_Md_transfer 118 = .ok (.laload, 1) := by decide +kernel
theorem d_Md_transfer_119 : decode b_Md_transfer 119 = .ok (.l2i, 1) := by decide +kernel
theorem d_Md_transfer_120 : decode b_Md_transfer 120 = .ok (.iconst 2, 1) := by decide +kernel
theorem d_Md_transfer_121 : decode b_Md_transfer 121 = .ok (.imul, 1) := by decide +kernel
theorem d_Md_transfer_122 : decode b_Md_transfer 122 = .ok (.iload 5, 2) := by decide +kernel
theorem d_Md_transfer_124 : decode b_Md_transfer 124 = .ok (.iadd, 1) := by decide +kernel
theorem d_Md_transfer_125 : decode b_Md_transfer 125 = .ok (.aload_n 0, 1) := by decide +kernel
theorem d_Md_transfer_126 : decode b_Md_transfer 126 = .ok (.getfield 28, 3) := by decide +kernel
theorem d_Md_transfer_129 : decode b_Md_transfer 129 = .ok (.iload 4, 2) := by decide +kernel
theorem d_Md_transfer_131 : decode b_Md_transfer 131 = .ok (.laload, 1) := by decide +kernel
theorem d_Md_transfer_132 : decode b_Md_transfer 132 = .ok (.lastore, 1) := by decide +kernel
theorem d_Md_transfer_133 : decode b_Md_transfer 133 = .ok (.goto 32, 3) := by decide +kernel
theorem d_Md_transfer_136 : decode b_Md_transfer 136 = .ok (.iload_n 2, 1) := by decide +kernel
theorem d_Md_transfer_137 : decode b_Md_transfer 137 = .ok (.ifCond .eq 17, 3) := by decide +kernel
theorem d_Md_transfer_140 : decode b_Md_transfer 140 = .ok (.aload_n 0, 1) := by decide +kernel
theorem d_Md_transfer_141 : decode b_Md_transfer 141 = .ok (.bipush 6, 2) := by decide +kernel
theorem d_Md_transfer_143 : decode b_Md_transfer 143 = .ok (.iload 5, 2) := by decide +kernel
theorem d_Md_transfer_145 : decode b_Md_transfer 145 = .ok (.iadd, 1) := by decide +kernel
theorem d_Md_transfer_146 : decode b_Md_transfer 146 = .ok (.iload 4, 2) := by decide +kernel
theorem d_Md_transfer_148 : decode b_Md_transfer 148 = .ok (.invokevirtual 161, 3) := by decide +kernel
theorem d_Md_transfer_151 : decode b_Md_transfer 151 = .ok (.goto 14, 3) := by decide +kernel
theorem d_Md_transfer_154 : decode b_Md_transfer 154 = .ok (.aload_n 0, 1) := by decide +kernel
theorem d_Md_transfer_155 : decode b_Md_transfer 155 = .ok (.iload 4, 2) := by decide +kernel
theorem d_Md_transfer_157 : decode b_Md_transfer 157 = .ok (.bipush 6, 2) := by decide +kernel
theorem d_Md_transfer_159 : decode b_Md_transfer 159 = .ok (.iload 5, 2) := by decide +kernel
theorem d_Md_transfer_161 : decode b_Md_transfer 161 = .ok (.iadd, 1) := by decide +kernel
theorem d_Md_transfer_162 : decode b_Md_transfer 162 = .ok (.invokevirtual 161, 3) := by decide +kernel
theorem d_Md_transfer_165 : decode b_Md_transfer 165 = .ok (.return_, 1) := by decide +kernel
theorem d_Md_callNow_0 : decode b_Md_callNow 0 = .ok (.aload_n 0, 1) := by decide +kernel
theorem d_Md_callNow_1 : decode b_Md_callNow 1 = .ok (.getfield 28, 3) := by decide +kernel
theorem d_Md_callNow_4 : decode b_Md_callNow 4 = .ok (.iconst 1, 1) := by decide +kernel
theorem d_Md_callNow_5 : decode b_Md_callNow 5 = .ok (.laload, 1) := by decide +kernel
theorem d_Md_callNow_6 : decode b_Md_callNow 6 = .ok (.lstore_n 2, 1) := by decide +kernel
theorem d_Md_callNow_7 : decode b_Md_callNow 7 = .ok (.aload_n 0, 1) := by decide +kernel
theorem d_Md_callNow_8 : decode b_Md_callNow 8 = .ok (.getfield 28, 3) := by decide +kernel
theorem d_Md_callNow_11 : decode b_Md_callNow 11 = .ok (.iconst 2, 1) := by decide +kernel
theorem d_Md_callNow_12 : decode b_Md_callNow 12 = .ok (.laload, 1) := by decide +kernel
theorem d_Md_callNow_13 : decode b_Md_callNow 13 = .ok (.lstore 4, 2) := by decide +kernel
theorem d_Md_callNow_15 : decode b_Md_callNow 15 = .ok (.iload_n 1, 1) := by decide +kernel
theorem d_Md_callNow_16 : decode b_Md_callNow 16 = .ok (.ifCond .ne 28, 3) := by decide +kernel
theorem d_Md_callNow_19 : decode b_Md_callNow 19 = .ok (.aload_n 0, 1) := by decide +kernel
theorem d_Md_callNow_20 : decode b_Md_callNow 20 = .ok (.iconst 0, 1) := by decide +kernel
theorem d_Md_callNow_21 : decode b_Md_callNow 21 = .ok (.iconst 1, 1) := by decide +kernel
theorem d_Md_callNow_22 : decode b_Md_callNow 22 = .ok (.aload_n 0, 1) := by decide +kernel
theorem d_Md_callNow_23 : decode b_Md_callNow 23 = .ok (.getfield 224, 3) := by decide +kernel
theorem d_Md_callNow_26 : decode b_Md_callNow 26 = .ok (.bipush 100, 2) := by decide +kernel
theorem d_Md_callNow_28 : decode b_Md_callNow 28 = .ok (.irem, 1) := by decide +kernel
theorem d_Md_callNow_29 : decode b_Md_callNow 29 = .ok (.i2l, 1) := by decide +kernel
theorem d_Md_callNow_30 : decode b_Md_callNow 30 = .ok (.lconst 0, 1) := by decide +kernel
theorem d_Md_callNow_31 : decode b_Md_callNow 31 = .ok (.invokevirtual 83, 3) := by decide +kernel
theorem d_Md_callNow_34 : decode b_Md_callNow 34 = .ok (.aload_n 0, 1) := by decide +kernel
theorem d_Md_callNow_35 : decode b_Md_callNow 35 = .ok (.dup, 1) := by decide +kernel
theorem d_Md_callNow_36 : decode b_Md_callNow 36 = .ok (.getfield 224, 3) := by decide +kernel
theorem d_Md_callNow_39 : decode b_Md_callNow 39 = .ok (.iconst 1, 1) := by decide +kernel
theorem d_Md_callNow_40 : decode b_Md_callNow 40 = .ok (.iadd, 1) := by decide +kernel
theorem d_Md_callNow_41 : decode b_Md_callNow 41 = .ok (.putfield 224, 3) := by decide +kernel
theorem d_Md_callNow_44 : decode b_Md_callNow 44 = .ok (.iload_n 1, 1) := by decide +kernel
theorem d_Md_callNow_45 : decode b_Md_callNow 45 = .ok (.iconst 1, 1) := by decide +kernel
theorem d_Md_callNow_46 : decode b_Md_callNow 46 = .ok (.if_icmp .ne 35, 3) := by decide +kernel
theorem d_Md_callNow_49 : decode b_Md_callNow 49 = .ok (.aload_n 0, 1) := by decide +kernel
theorem d_Md_callNow_50 : decode b_Md_callNow 50 = .ok (.iconst 0, 1) := by decide +kernel
theorem d_Md_callNow_51 : decode b_Md_callNow 51 = .ok (.lload_n 2, 1) := by decide +kernel
theorem d_Md_callNow_52 : decode b_Md_callNow 52 = .ok (.ldc2_w 227, 3) := by decide +kernel
theorem d_Md_callNow_55 : decode b_Md_callNow 55 = .ok (.lcmp, 1) := by decide +kernel
theorem d_Md_callNow_56 : decode b_Md_callNow 56 = .ok (.ifCond .ge 7, 3) := by decide +kernel
theorem d_Md_callNow_59 : decode b_Md_callNow 59 = .ok (.iconst 3, 1) := by decide +kernel
theorem d_Md_callNow_60 : decode b_Md_callNow 60 = .ok (.goto 4, 3) := by decide +kernel
theorem d_Md_callNow_63 : decode b_Md_callNow 63 = .ok (.iconst 1, 1) := by decide +kernel
theorem d_Md_callNow_64 : decode b_Md_callNow 64 = .ok (.lconst 0, 1) := by decide +kernel
theorem d_Md_callNow_65 : decode b_Md_callNow 65 = .ok (.lload_n 2, 1) := by decide +kernel
theorem d_Md_callNow_66 : decode b_Md_callNow 66 = .ok (.ldc2_w 227, 3) := by decide +kernel
theorem d_Md_callNow_69 : decode b_Md_callNow 69 = .ok (.lcmp, 1) := by decide +kernel
theorem d_Md_callNow_70 : decode b_Md_callNow 70 = .ok (.ifCond .ge 7, 3) := by decide +kernel
theorem d_Md_callNow_73 : decode b_Md_callNow 73 = .ok (.lload_n 2, 1) := by decide +kernel
theorem d_Md_callNow_74 : decode b_Md_callNow 74 = .ok (.goto 4, 3) := by decide +kernel
theorem d_Md_callNow_77 : decode b_Md_callNow 77 = .ok (.lconst 0, 1) := by decide +kernel
theorem d_Md_callNow_78 : decode b_Md_callNow 78 = .ok (.invokevirtual 83, 3) := by decide +kernel
theorem d_Md_callNow_81 : decode b_Md_callNow 81 = .ok (.iload_n 1, 1) := by decide +kernel
theorem d_Md_callNow_82 : decode b_Md_callNow 82 = .ok (.iconst 2, 1) := by decide +kernel
theorem d_Md_callNow_83 : decode b_Md_callNow 83 = .ok (.if_icmp .ne 23, 3) := by decide +kernel
theorem d_Md_callNow_86 : decode b_Md_callNow 86 = .ok (.aload_n 0, 1) := by decide +kernel
theorem d_Md_callNow_87 : decode b_Md_callNow 87 = .ok (.iconst 0, 1) := by decide +kernel
theorem d_Md_callNow_88 : decode b_Md_callNow 88 = .ok (.iconst 1, 1) := by decide +kernel
theorem d_Md_callNow_89 : decode b_Md_callNow 89 = .ok (.lload_n 2, 1) := by decide +kernel
theorem d_Md_callNow_90 : decode b_Md_callNow 90 = .ok (.lload 4, 2) := by decide +kernel
theorem d_Md_callNow_92 : decode b_Md_callNow 92 = .ok (.lcmp, 1) := by decide +kernel
theorem d_Md_callNow_93 : decode b_Md_callNow 93 = .ok (.ifCond .le 7, 3) := by decide +kernel
theorem d_Md_callNow_96 : decode b_Md_callNow 96 = .ok (.lload_n 2, 1) := by decide +kernel
theorem d_Md_callNow_97 : decode b_Md_callNow 97 = .ok (.goto 5, 3) := by decide +kernel
theorem d_Md_callNow_100 : decode b_Md_callNow 100 = .ok (.lload 4, 2) := by decide +kernel
theorem d_Md_callNow_102 : decode b_Md_callNow 102 = .ok (.lconst 0, 1) := by decide +kernel
theorem d_Md_callNow_103 : decode b_Md_callNow 103 = .ok (.invokevirtual 83, 3) := by decide +kernel
theorem d_Md_callNow_106 : decode b_Md_callNow 106 = .ok (.iconst 1, 1) := by decide +kernel
theorem d_Md_callNow_107 : decode b_Md_callNow 107 = .ok (.istore 6, 2) := by decide +kernel
theorem d_Md_callNow_109 : decode b_Md_callNow 109 = .ok (.iload 6, 2) := by decide +kernel
theorem d_Md_callNow_111 : decode b_Md_callNow 111 = .ok (.iconst 4, 1) := by decide +kernel
theorem d_Md_callNow_112 : decode b_Md_callNow 112 = .ok (.if_icmp .ge 18, 3) := by decide +kernel
theorem d_Md_callNow_115 : decode b_Md_callNow 115 = .ok (.aload_n 0, 1) := by decide +kernel
theorem d_Md_callNow_116 : decode b_Md_callNow 116 = .ok (.iload 6, 2) := by decide +kernel
theorem d_Md_callNow_118 : decode b_Md_callNow 118 = .ok (.iconst 0, 1) := by decide +kernel
theorem d_Md_callNow_119 : decode b_Md_callNow 119 = .ok (.lconst 0, 1) := by decide +kernel
theorem d_Md_callNow_120 : decode b_Md_callNow 120 = .ok (.lconst 0, 1) := by decide +kernel
theorem d_Md_callNow_121 : decode b_Md_callNow 121 = .ok (.invokevirtual 83, 3) := by decide +kernel
theorem d_Md_callNow_124 : decode b_Md_callNow 124 = .ok (.iinc 6 1, 3) := by decide +kernel
theorem d_Md_callNow_127 : decode b_Md_callNow 127 = .ok (.goto (-18), 3) := by decide +kernel
theorem d_Md_callNow_130 : decode b_Md_callNow 130 = .ok (.return_, 1) := by decide +kernel
theorem d_Md_run_0 : decode b_Md_run 0 = .ok (.aload_n 0, 1) := by decide +kernel
theorem d_Md_run_1 : decode b_Md_run 1 = .ok (.aload_n 0, 1) := by decide +kernel
theorem d_Md_run_2 : decode b_Md_run 2 = .ok (.getfield 64, 3) := by decide +kernel
theorem d_Md_run_5 : decode b_Md_run 5 = .ok (.ifCond .eq 7, 3) := by decide +kernel
theorem d_Md_run_8 : decode b_Md_run 8 = .ok (.iconst 0, 1) := by decide +kernel
theorem d_Md_run_9 : decode b_Md_run 9 = .ok (.goto 4, 3) := by decide +kernel
theorem d_Md_run_12 : decode b_Md_run 12 = .ok (.iconst 1, 1) := by decide +kernel
theorem d_Md_run_13 : decode b_Md_run 13 = .ok (.putfield 50, 3) := by decide +kernel
theorem d_Md_run_16 : decode b_Md_run 16 = .ok (.aload_n 0, 1) := by decide +kernel
theorem d_Md_run_17 : decode b_Md_run 17 = .ok (.getfield 64, 3) := by decide +kernel
theorem d_Md_run_20 : decode b_Md_run 20 = .ok (.ifCond .ne 5, 3) := by decide +kernel
theorem d_Md_run_23 : decode b_Md_run 23 = .ok (.lconst 0, 1) := by decide +kernel
theorem d_Md_run_24 : decode b_Md_run 24 = .ok (.lreturn, 1) := by decide +kernel
theorem d_Md_run_25 : decode b_Md_run 25 = .ok (.iconst 0, 1) := by decide +kernel
theorem d_Md_run_26 : decode b_Md_run 26 = .ok (.istore_n 3, 1) := by decide +kernel
theorem d_Md_run_27 : decode b_Md_run 27 = .ok (.iload_n 3, 1) := by decide +kernel
theorem d_Md_run_28 : decode b_Md_run 28 = .ok (.bipush 12, 2) := by decide +kernel
theorem d_Md_run_30 : decode b_Md_run 30 = .ok (.if_icmp .ge 17, 3) := by decide +kernel
theorem d_Md_run_33 : decode b_Md_run 33 = .ok (.aload_n 0, 1) := by decide +kernel
theorem d_Md_run_34 : decode b_Md_run 34 = .ok (.iload_n 3, 1) := by decide +kernel
theorem d_Md_run_35 : decode b_Md_run 35 = .ok (.iconst 0, 1) := by decide +kernel
theorem d_Md_run_36 : decode b_Md_run 36 = .ok (.lconst 0, 1) := by decide +kernel
theorem d_Md_run_37 : decode b_Md_run 37 = .ok (.lconst 0, 1) := by decide +kernel
theorem d_Md_run_38 : decode b_Md_run 38 = .ok (.invokevirtual 83, 3) := by decide +kernel
theorem d_Md_run_41 : decode b_Md_run 41 = .ok (.iinc 3 1, 3) := by decide +kernel
theorem d_Md_run_44 : decode b_Md_run 44 = .ok (.goto (-17), 3) := by decide +kernel
theorem d_Md_run_47 : decode b_Md_run 47 = .ok (.aload_n 0, 1) := by decide +kernel
theorem d_Md_run_48 : decode b_Md_run 48 = .ok (.iconst 1, 1) := by decide +kernel
theorem d_Md_run_49 : decode b_Md_run 49 = .ok (.iconst 1, 1) := by decide +kernel
theorem d_Md_run_50 : decode b_Md_run 50 = .ok (.lload_n 1, 1) := by decide +kernel
theorem d_Md_run_51 : decode b_Md_run 51 = .ok (.lconst 0, 1) := by decide +kernel
theorem d_Md_run_52 : decode b_Md_run 52 = .ok (.invokevirtual 83, 3) := by decide +kernel
theorem d_Md_run_55 : decode b_Md_run 55 = .ok (.aload_n 0, 1) := by decide +kernel
theorem d_Md_run_56 : decode b_Md_run 56 = .ok (.iconst 2, 1) := by decide +kernel
theorem d_Md_run_57 : decode b_Md_run 57 = .ok (.iconst 2, 1) := by decide +kernel
theorem d_Md_run_58 : decode b_Md_run 58 = .ok (.lconst 0, 1) := by decide +kernel
theorem d_Md_run_59 : decode b_Md_run 59 = .ok (.lconst 0, 1) := by decide +kernel
theorem d_Md_run_60 : decode b_Md_run 60 = .ok (.invokevirtual 83, 3) := by decide +kernel
theorem d_Md_run_63 : decode b_Md_run 63 = .ok (.iconst 0, 1) := by decide +kernel
theorem d_Md_run_64 : decode b_Md_run 64 = .ok (.istore_n 3, 1) := by decide +kernel
theorem d_Md_run_65 : decode b_Md_run 65 = .ok (.aload_n 0, 1) := by decide +kernel
theorem d_Md_run_66 : decode b_Md_run 66 = .ok (.iconst 1, 1) := by decide +kernel
theorem d_Md_run_67 : decode b_Md_run 67 = .ok (.putfield 229, 3) := by decide +kernel
theorem d_Md_run_70 : decode b_Md_run 70 = .ok (.aload_n 0, 1) := by decide +kernel
theorem d_Md_run_71 : decode b_Md_run 71 = .ok (.getfield 7, 3) := by decide +kernel
theorem d_Md_run_74 : decode b_Md_run 74 = .ok (.iload_n 3, 1) := by decide +kernel
theorem d_Md_run_75 : decode b_Md_run 75 = .ok (.iaload, 1) := by decide +kernel
theorem d_Md_run_76 : decode b_Md_run 76 = .ok (.bipush 17, 2) := by decide +kernel
theorem d_Md_run_78 : decode b_Md_run 78 = .ok (.if_icmp .eq 181, 3) := by decide +kernel
theorem d_Md_run_81 : decode b_Md_run 81 = .ok (.aload_n 0, 1) := by decide +kernel
theorem d_Md_run_82 : decode b_Md_run 82 = .ok (.getfield 7, 3) := by decide +kernel
theorem d_Md_run_85 : decode b_Md_run 85 = .ok (.iload_n 3, 1) := by decide +kernel
theorem d_Md_run_86 : decode b_Md_run 86 = .ok (.iaload, 1) := by decide +kernel
theorem d_Md_run_87 : decode b_Md_run 87 = .ok (.istore 4, 2) := by decide +kernel
theorem d_Md_run_89 : decode b_Md_run 89 = .ok (.iload_n 3, 1) := by decide +kernel
theorem d_Md_run_90 : decode b_Md_run 90 = .ok (.iconst 1, 1) := by decide +kernel
theorem d_Md_run_91 : decode b_Md_run 91 = .ok (.iadd, 1) := by decide +kernel
theorem d_Md_run_92 : decode b_Md_run 92 = .ok (.istore 5, 2) := by decide +kernel
theorem d_Md_run_94 : decode b_Md_run 94 = .ok (.iload 4, 2) := by decide +kernel
theorem d_Md_run_96 : decode b_Md_run 96 = .ok (.ifCond .ne 22, 3) := by decide +kernel
theorem d_Md_run_99 : decode b_Md_run 99 = .ok (.aload_n 0, 1) := by decide +kernel
theorem d_Md_run_100 : decode b_Md_run 100 = .ok (.aload_n 0, 1) := by decide +kernel
theorem d_Md_run_101 : decode b_Md_run 101 = .ok (.getfield 13, 3) := by decide +kernel
theorem d_Md_run_104 : decode b_Md_run 104 = .ok (.iload_n 3, 1) := by decide +kernel
theorem d_Md_run_105 : decode b_Md_run 105 = .ok (.iaload, 1) := by decide +kernel
theorem d_Md_run_106 : decode b_Md_run 106 = .ok (.iconst 1, 1) := by decide +kernel
theorem d_Md_run_107 : decode b_Md_run 107 = .ok (.aload_n 0, 1) := by decide +kernel
theorem d_Md_run_108 : decode b_Md_run 108 = .ok (.getfield 19, 3) := by decide +kernel
theorem d_Md_run_111 : decode b_Md_run 111 = .ok (.iload_n 3, 1) := by decide +kernel
theorem d_Md_run_112 : decode b_Md_run 112 = .ok (.iaload, 1) := by decide +kernel
theorem d_Md_run_113 : decode b_Md_run 113 = .ok (.i2l, 1) := by decide +kernel
theorem d_Md_run_114 : decode b_Md_run 114 = .ok (.lconst 0, 1) := by decide +kernel
theorem d_Md_run_115 : decode b_Md_run 115 = .ok (.invokevirtual 83, 3) := by decide +kernel
theorem d_Md_run_118 : decode b_Md_run 118 = .ok (.iload 4, 2) := by decide +kernel
theorem d_Md_run_120 : decode b_Md_run 120 = .ok (.iconst 1, 1) := by decide +kernel
theorem d_Md_run_121 : decode b_Md_run 121 = .ok (.if_icmp .ne 19, 3) := by decide +kernel
theorem d_Md_run_124 : decode b_Md_run 124 = .ok (.aload_n 0, 1) := by decide +kernel
theorem d_Md_run_125 : decode b_Md_run 125 = .ok (.aload_n 0, 1) := by decide +kernel
theorem d_Md_run_126 : decode b_Md_run 126 = .ok (.getfield 16, 3) := by decide +kernel
theorem d_Md_run_129 : decode b_Md_run 129 = .ok (.iload_n 3, 1) := by decide +kernel
theorem d_Md_run_130 : decode b_Md_run 130 = .ok (.iaload, 1) := by decide +kernel
theorem d_Md_run_131 : decode b_Md_run 131 = .ok (.aload_n 0, 1) := by decide +kernel
theorem d_Md_run_132 : decode b_Md_run 132 = .ok (.getfield 13, 3) := by decide +kernel
theorem d_Md_run_135 : decode b_Md_run 135 = .ok (.iload_n 3, 1) := by decide +kernel
theorem d_Md_run_136 : decode b_Md_run 136 = .ok (.iaload, 1) := by decide +kernel
theorem d_Md_run_137 : decode b_Md_run 137 = .ok (.invokevirtual 161, 3) := by decide +kernel
theorem d_Md_run_140 : decode b_Md_run 140 = .ok (.iload 4, 2) := by decide +kernel
theorem d_Md_run_142 : decode b_Md_run 142 = .ok (.iconst 1, 1) := by decide +kernel
theorem d_Md_run_143 : decode b_Md_run 143 = .ok (.if_icmp .le 15, 3) := by decide +kernel
theorem d_Md_run_146 : decode b_Md_run 146 = .ok (.iload 4, 2) := by decide +kernel
theorem d_Md_run_148 : decode b_Md_run 148 = .ok (.bipush 10, 2) := by decide +kernel
theorem d_Md_run_150 : decode b_Md_run 150 = .ok (.if_icmp .ge 8, 3) := by decide +kernel
theorem d_Md_run_153 : decode b_Md_run 153 = .ok (.aload_n 0, 1) := by decide +kernel
theorem d_Md_run_154 : decode b_Md_run 154 = .ok (.iload_n 3, 1) := by decide +kernel
theorem d_Md_run_155 : decode b_Md_run 155 = .ok (.invokevirtual 232, 3) := by decide +kernel
theorem d_Md_run_158 : decode b_Md_run 158 = .ok (.iload 4, 2) := by decide +kernel
theorem d_Md_run_160 : decode b_Md_run 160 = .ok (.bipush 13, 2) := by decide +kernel
theorem d_Md_run_162 : decode b_Md_run 162 = .ok (.if_icmp .eq 25, 3) := by decide +kernel
theorem d_Md_run_165 : decode b_Md_run 165 = .ok (.iload 4, 2) := by decide +kernel
theorem d_Md_run_167 : decode b_Md_run 167 = .ok (.bipush 9, 2) := by decide +kernel
theorem d_Md_run_169 : decode b_Md_run 169 = .ok (.if_icmp .le 26, 3) := by decide +kernel
theorem d_Md_run_172 : decode b_Md_run 172 = .ok (.iload 4, 2) := by decide +kernel
theorem d_Md_run_174 : decode b_Md_run 174 = .ok (.bipush 13, 2) := by decide +kernel
theorem d_Md_run_176 : decode b_Md_run 176 = .ok (.if_icmp .ge 19, 3) := by decide +kernel
theorem d_Md_run_179 : decode b_Md_run 179 = .ok (.aload_n 0, 1) := by decide +kernel
theorem d_Md_run_180 : decode b_Md_run 180 = .ok (.iload_n 3, 1) := by decide +kernel
theorem d_Md_run_181 : decode b_Md_run 181 = .ok (.invokevirtual 235, 3) := by decide +kernel
theorem d_Md_run_184 : decode b_Md_run 184 = .ok (.ifCond .eq 11, 3) := by decide +kernel
theorem d_Md_run_187 : decode b_Md_run 187 = .ok (.aload_n 0, 1) := by decide +kernel
theorem d_Md_run_188 : decode b_Md_run 188 = .ok (.getfield 22, 3) := by decide +kernel
theorem d_Md_run_191 : decode b_Md_run 191 = .ok (.iload_n 3, 1) := by decide +kernel
theorem d_Md_run_192 : decode b_Md_run 192 = .ok (.iaload, 1) := by decide +kernel
theorem d_Md_run_193 : decode b_Md_run 193 = .ok (.istore 5, 2) := by decide +kernel
theorem d_Md_run_195 : decode b_Md_run 195 = .ok (.iload 4, 2) := by decide +kernel
theorem d_Md_run_197 : decode b_Md_run 197 = .ok (.bipush 14, 2) := by decide +kernel
theorem d_Md_run_199 : decode b_Md_run 199 = .ok (.if_icmp .eq 10, 3) := by decide +kernel
theorem d_Md_run_202 : decode b_Md_run 202 = .ok (.iload 4, 2) := by decide +kernel
theorem d_Md_run_204 : decode b_Md_run 204 = .ok (.bipush 15, 2) := by decide +kernel
theorem d_Md_run_206 : decode b_Md_run 206 = .ok (.if_icmp .ne 20, 3) := by decide +kernel
theorem d_Md_run_209 : decode b_Md_run 209 = .ok (.aload_n 0, 1) := by decide +kernel
theorem d_Md_run_210 : decode b_Md_run 210 = .ok (.iload_n 3, 1) := by decide +kernel
theorem d_Md_run_211 : decode b_Md_run 211 = .ok (.iload 4, 2) := by decide +kernel
theorem d_Md_run_213 : decode b_Md_run 213 = .ok (.bipush 14, 2) := by decide +kernel
theorem d_Md_run_215 : decode b_Md_run 215 = .ok (.if_icmp .ne 7, 3) := by decide +kernel
theorem d_Md_run_218 : decode b_Md_run 218 = .ok (.iconst 1, 1) := by decide +kernel
theorem d_Md_run_219 : decode b_Md_run 219 = .ok (.goto 4, 3) := by decide +kernel
theorem d_Md_run_222 : decode b_Md_run 222 = .ok (.iconst 0, 1) := by decide +kernel
theorem d_Md_run_223 : decode b_Md_run 223 = .ok (.invokevirtual 238, 3) := by decide +kernel
theorem d_Md_run_226 : decode b_Md_run 226 = .ok (.iload 4, 2) := by decide +kernel
theorem d_Md_run_228 : decode b_Md_run 228 = .ok (.bipush 16, 2) := by decide +kernel
theorem d_Md_run_230 : decode b_Md_run 230 = .ok (.if_icmp .ne 13, 3) := by decide +kernel
theorem d_Md_run_233 : decode b_Md_run 233 = .ok (.aload_n 0, 1) := by decide +kernel
theorem d_Md_run_234 : decode b_Md_run 234 = .ok (.aload_n 0, 1) := by decide +kernel
theorem d_Md_run_235 : decode b_Md_run 235 = .ok (.getfield 19, 3) := by decide +kernel
theorem d_Md_run_238 : decode b_Md_run 238 = .ok (.iload_n 3, 1) := by decide +kernel
theorem d_Md_run_239 : decode b_Md_run 239 = .ok (.iaload, 1) := by decide +kernel
theorem d_Md_run_240 : decode b_Md_run 240 = .ok (.invokevirtual 242, 3) := by decide +kernel
theorem d_Md_run_243 : decode b_Md_run 243 = .ok (.iload 5, 2) := by decide +kernel
theorem d_Md_run_245 : decode b_Md_run 245 = .ok (.istore_n 3, 1) := by decide +kernel
theorem d_Md_run_246 : decode b_Md_run 246 = .ok (.aload_n 0, 1) := by decide +kernel
theorem d_Md_run_247 : decode b_Md_run 247 = .ok (.dup, 1) := by decide +kernel
theorem d_Md_run_248 : decode b_Md_run 248 = .ok (.getfield 229, 3) := by decide +kernel
theorem d_Md_run_251 : decode b_Md_run 251 = .ok (.iconst 1, 1) := by decide +kernel
theorem d_Md_run_252 : decode b_Md_run 252 = .ok (.iadd, 1) := by decide +kernel
theorem d_Md_run_253 : decode b_Md_run 253 = .ok (.putfield 229, 3) := by decide +kernel
theorem d_Md_run_256 : decode b_Md_run 256 = .ok (.goto (-186), 3) := by decide +kernel
theorem d_Md_run_259 : decode b_Md_run 259 = .ok (.aload_n 0, 1) := by decide +kernel
theorem d_Md_run_260 : decode b_Md_run 260 = .ok (.getfield 28, 3) := by decide +kernel
theorem d_Md_run_263 : decode b_Md_run 263 = .ok (.iconst 0, 1) := by decide +kernel
theorem d_Md_run_264 : decode b_Md_run 264 = .ok (.laload, 1) := by decide +kernel
theorem d_Md_run_265 : decode b_Md_run 265 = .ok (.lreturn, 1) := by decide +kernel
theorem d_Md_row_0 : decode b_Md_row 0 = .ok (.aload_n 0, 1) := by decide +kernel
theorem d_Md_row_1 : decode b_Md_row 1 = .ok (.iload_n 1, 1) := by decide +kernel
theorem d_Md_row_2 : decode b_Md_row 2 = .ok (.i2l, 1) := by decide +kernel
theorem d_Md_row_3 : decode b_Md_row 3 = .ok (.lconst 0, 1) := by decide +kernel
theorem d_Md_row_4 : decode b_Md_row 4 = .ok (.ldc2_w 60, 3) := by decide +kernel
theorem d_Md_row_7 : decode b_Md_row 7 = .ok (.invokestatic 56, 3) := by decide +kernel
theorem d_Md_row_10 : decode b_Md_row 10 = .ok (.ifCond .eq 17, 3) := by decide +kernel
theorem d_Md_row_13 : decode b_Md_row 13 = .ok (.iload_n 2, 1) := by decide +kernel
theorem d_Md_row_14 : decode b_Md_row 14 = .ok (.i2l, 1) := by decide +kernel
theorem d_Md_row_15 : decode b_Md_row 15 = .ok (.lconst 0, 1) := by decide +kernel
theorem d_Md_row_16 : decode b_Md_row 16 = .ok (.lconst 1, 1) := by decide +kernel
theorem d_Md_row_17 : decode b_Md_row 17 = .ok (.invokestatic 56, 3) := by decide +kernel
theorem d_Md_row_20 : decode b_Md_row 20 = .ok (.ifCond .eq 7, 3) := by decide +kernel
theorem d_Md_row_23 : decode b_Md_row 23 = .ok (.iconst 1, 1) := by decide +kernel
theorem d_Md_row_24 : decode b_Md_row 24 = .ok (.goto 4, 3) := by decide +kernel
theorem d_Md_row_27 : decode b_Md_row 27 = .ok (.iconst 0, 1) := by decide +kernel
theorem d_Md_row_28 : decode b_Md_row 28 = .ok (.invokevirtual 72, 3) := by decide +kernel
theorem d_Md_row_31 : decode b_Md_row 31 = .ok (.ifCond .eq 5, 3) := by decide +kernel
theorem d_Md_row_34 : decode b_Md_row 34 = .ok (.lconst 0, 1) := by decide +kernel
theorem d_Md_row_35 : decode b_Md_row 35 = .ok (.lreturn, 1) := by decide +kernel
theorem d_Md_row_36 : decode b_Md_row 36 = .ok (.aload_n 0, 1) := by decide +kernel
theorem d_Md_row_37 : decode b_Md_row 37 = .ok (.getfield 47, 3) := by decide +kernel
theorem d_Md_row_40 : decode b_Md_row 40 = .ok (.iload_n 1, 1) := by decide +kernel
theorem d_Md_row_41 : decode b_Md_row 41 = .ok (.iconst 2, 1) := by decide +kernel
theorem d_Md_row_42 : decode b_Md_row 42 = .ok (.imul, 1) := by decide +kernel
theorem d_Md_row_43 : decode b_Md_row 43 = .ok (.iload_n 2, 1) := by decide +kernel
theorem d_Md_row_44 : decode b_Md_row 44 = .ok (.iadd, 1) := by decide +kernel
theorem d_Md_row_45 : decode b_Md_row 45 = .ok (.laload, 1) := by decide +kernel
theorem d_Md_row_46 : decode b_Md_row 46 = .ok (.lreturn, 1) := by decide +kernel
theorem d_Md_fill_0 : decode b_Md_fill 0 = .ok (.aload_n 0, 1) := by decide +kernel
theorem d_Md_fill_1 : decode b_Md_fill 1 = .ok (.iload_n 1, 1) := by decide +kernel
theorem d_Md_fill_2 : decode b_Md_fill 2 = .ok (.i2l, 1) := by decide +kernel
theorem d_Md_fill_3 : decode b_Md_fill 3 = .ok (.lconst 0, 1) := by decide +kernel
theorem d_Md_fill_4 : decode b_Md_fill 4 = .ok (.ldc2_w 60, 3) := by decide +kernel
theorem d_Md_fill_7 : decode b_Md_fill 7 = .ok (.invokestatic 56, 3) := by decide +kernel
theorem d_Md_fill_10 : decode b_Md_fill 10 = .ok (.ifCond .eq 17, 3) := by decide +kernel
theorem d_Md_fill_13 : decode b_Md_fill 13 = .ok (.iload_n 2, 1) := by decide +kernel
theorem d_Md_fill_14 : decode b_Md_fill 14 = .ok (.i2l, 1) := by decide +kernel
theorem d_Md_fill_15 : decode b_Md_fill 15 = .ok (.lconst 0, 1) := by decide +kernel
theorem d_Md_fill_16 : decode b_Md_fill 16 = .ok (.lconst 1, 1) := by decide +kernel
theorem d_Md_fill_17 : decode b_Md_fill 17 = .ok (.invokestatic 56, 3) := by decide +kernel
theorem d_Md_fill_20 : decode b_Md_fill 20 = .ok (.ifCond .eq 7, 3) := by decide +kernel
theorem d_Md_fill_23 : decode b_Md_fill 23 = .ok (.iconst 1, 1) := by decide +kernel
theorem d_Md_fill_24 : decode b_Md_fill 24 = .ok (.goto 4, 3) := by decide +kernel
theorem d_Md_fill_27 : decode b_Md_fill 27 = .ok (.iconst 0, 1) := by decide +kernel
theorem d_Md_fill_28 : decode b_Md_fill 28 = .ok (.invokevirtual 72, 3) := by decide +kernel
theorem d_Md_fill_31 : decode b_Md_fill 31 = .ok (.ifCond .eq 4, 3) := by decide +kernel
theorem d_Md_fill_34 : decode b_Md_fill 34 = .ok (.return_, 1) := by decide +kernel
theorem d_Md_fill_35 : decode b_Md_fill 35 = .ok (.aload_n 0, 1) := by decide +kernel
theorem d_Md_fill_36 : decode b_Md_fill 36 = .ok (.getfield 47, 3) := by decide +kernel
theorem d_Md_fill_39 : decode b_Md_fill 39 = .ok (.iload_n 1, 1) := by decide +kernel
theorem d_Md_fill_40 : decode b_Md_fill 40 = .ok (.iconst 2, 1) := by decide +kernel
theorem d_Md_fill_41 : decode b_Md_fill 41 = .ok (.imul, 1) := by decide +kernel
theorem d_Md_fill_42 : decode b_Md_fill 42 = .ok (.iload_n 2, 1) := by decide +kernel
theorem d_Md_fill_43 : decode b_Md_fill 43 = .ok (.iadd, 1) := by decide +kernel
theorem d_Md_fill_44 : decode b_Md_fill 44 = .ok (.lload_n 3, 1) := by decide +kernel
theorem d_Md_fill_45 : decode b_Md_fill 45 = .ok (.lastore, 1) := by decide +kernel
theorem d_Md_fill_46 : decode b_Md_fill 46 = .ok (.return_, 1) := by decide +kernel
theorem d_Md_outcome_0 : decode b_Md_outcome 0 = .ok (.aload_n 0, 1) := by decide +kernel
theorem d_Md_outcome_1 : decode b_Md_outcome 1 = .ok (.aload_n 0, 1) := by decide +kernel
theorem d_Md_outcome_2 : decode b_Md_outcome 2 = .ok (.getfield 64, 3) := by decide +kernel
theorem d_Md_outcome_5 : decode b_Md_outcome 5 = .ok (.ifCond .eq 7, 3) := by decide +kernel
theorem d_Md_outcome_8 : decode b_Md_outcome 8 = .ok (.iconst 0, 1) := by decide +kernel
theorem d_Md_outcome_9 : decode b_Md_outcome 9 = .ok (.goto 4, 3) := by decide +kernel
theorem d_Md_outcome_12 : decode b_Md_outcome 12 = .ok (.iconst 1, 1) := by decide +kernel
theorem d_Md_outcome_13 : decode b_Md_outcome 13 = .ok (.putfield 50, 3) := by decide +kernel
theorem d_Md_outcome_16 : decode b_Md_outcome 16 = .ok (.aload_n 0, 1) := by decide +kernel
theorem d_Md_outcome_17 : decode b_Md_outcome 17 = .ok (.getfield 64, 3) := by decide +kernel
theorem d_Md_outcome_20 : decode b_Md_outcome 20 = .ok (.ifCond .ne 7, 3) := by decide +kernel
theorem d_Md_outcome_23 : decode b_Md_outcome 23 = .ok (.lconst 0, 1) := by decide +kernel
theorem d_Md_outcome_24 : decode b_Md_outcome 24 = .ok (.goto 18, 3) := by decide +kernel
theorem d_Md_outcome_27 : decode b_Md_outcome 27 = .ok (.iload_n 1, 1) := by decide +kernel
theorem d_Md_outcome_28 : decode b_Md_outcome 28 = .ok (.ifCond .eq 10, 3) := by decide +kernel
theorem d_Md_outcome_31 : decode b_Md_outcome 31 = .ok (.aload_n 0, 1) := by decide +kernel
theorem d_Md_outcome_32 : decode b_Md_outcome 32 = .ok (.getfield 180, 3) := by decide +kernel
theorem d_Md_outcome_35 : decode b_Md_outcome 35 = .ok (.goto 7, 3) := by decide +kernel
theorem d_Md_outcome_38 : decode b_Md_outcome 38 = .ok (.aload_n 0, 1) := by decide +kernel
theorem d_Md_outcome_39 : decode b_Md_outcome 39 = .ok (.getfield 176, 3) := by decide +kernel
theorem d_Md_outcome_42 : decode b_Md_outcome 42 = .ok (.lreturn, 1) := by decide +kernel
theorem d_Md_count_0 : decode b_Md_count 0 = .ok (.aload_n 0, 1) := by decide +kernel
theorem d_Md_count_1 : decode b_Md_count 1 = .ok (.iconst 0, 1) := by decide +kernel
theorem d_Md_count_2 : decode b_Md_count 2 = .ok (.putfield 50, 3) := by decide +kernel
theorem d_Md_count_5 : decode b_Md_count 5 = .ok (.iload_n 1, 1) := by decide +kernel
theorem d_Md_count_6 : decode b_Md_count 6 = .ok (.tableswitch 85 0 6 #[42, 47, 60, 65, 70, 75, 80], 42) := by decide +kernel
theorem d_Md_count_48 : decode b_Md_count 48 = .ok (.aload_n 0, 1) := by decide +kernel
theorem d_Md_count_49 : decode b_Md_count 49 = .ok (.getfield 76, 3) := by decide +kernel
theorem d_Md_count_52 : decode b_Md_count 52 = .ok (.ireturn, 1) := by decide +kernel
theorem d_Md_count_53 : decode b_Md_count 53 = .ok (.aload_n 0, 1) := by decide +kernel
theorem d_Md_count_54 : decode b_Md_count 54 = .ok (.getfield 64, 3) := by decide +kernel
theorem d_Md_count_57 : decode b_Md_count 57 = .ok (.ifCond .eq 7, 3) := by decide +kernel
theorem d_Md_count_60 : decode b_Md_count 60 = .ok (.iconst 1, 1) := by decide +kernel
theorem d_Md_count_61 : decode b_Md_count 61 = .ok (.goto 4, 3) := by decide +kernel
theorem d_Md_count_64 : decode b_Md_count 64 = .ok (.iconst 0, 1) := by decide +kernel
theorem d_Md_count_65 : decode b_Md_count 65 = .ok (.ireturn, 1) := by decide +kernel
theorem d_Md_count_66 : decode b_Md_count 66 = .ok (.aload_n 0, 1) := by decide +kernel
theorem d_Md_count_67 : decode b_Md_count 67 = .ok (.getfield 215, 3) := by decide +kernel
theorem d_Md_count_70 : decode b_Md_count 70 = .ok (.ireturn, 1) := by decide +kernel
theorem d_Md_count_71 : decode b_Md_count 71 = .ok (.aload_n 0, 1) := by decide +kernel
theorem d_Md_count_72 : decode b_Md_count 72 = .ok (.getfield 218, 3) := by decide +kernel
theorem d_Md_count_75 : decode b_Md_count 75 = .ok (.ireturn, 1) := by decide +kernel
theorem d_Md_count_76 : decode b_Md_count 76 = .ok (.aload_n 0, 1) := by decide +kernel
theorem d_Md_count_77 : decode b_Md_count 77 = .ok (.getfield 208, 3) := by decide +kernel
theorem d_Md_count_80 : decode b_Md_count 80 = .ok (.ireturn, 1) := by decide +kernel
theorem d_Md_count_81 : decode b_Md_count 81 = .ok (.aload_n 0, 1) := by decide +kernel
theorem d_Md_count_82 : decode b_Md_count 82 = .ok (.getfield 229, 3) := by decide +kernel
theorem d_Md_count_85 : decode b_Md_count 85 = .ok (.ireturn, 1) := by decide +kernel
theorem d_Md_count_86 : decode b_Md_count 86 = .ok (.aload_n 0, 1) := by decide +kernel
theorem d_Md_count_87 : decode b_Md_count 87 = .ok (.getfield 224, 3) := by decide +kernel
theorem d_Md_count_90 : decode b_Md_count 90 = .ok (.ireturn, 1) := by decide +kernel
theorem d_Md_count_91 : decode b_Md_count 91 = .ok (.iconst (-1), 1) := by decide +kernel
theorem d_Md_count_92 : decode b_Md_count 92 = .ok (.ireturn, 1) := by decide +kernel
