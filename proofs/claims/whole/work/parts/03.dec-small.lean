theorem d_Ef_init_0 : decode b_Ef_init 0 = .ok (.aload_n 0, 1) := by decide +kernel
theorem d_Ef_init_1 : decode b_Ef_init 1 = .ok (.invokespecial 3, 3) := by decide +kernel
theorem d_Ef_init_4 : decode b_Ef_init 4 = .ok (.aload_n 0, 1) := by decide +kernel
theorem d_Ef_init_5 : decode b_Ef_init 5 = .ok (.aload_n 1, 1) := by decide +kernel
theorem d_Ef_init_6 : decode b_Ef_init 6 = .ok (.putfield 9, 3) := by decide +kernel
theorem d_Ef_init_9 : decode b_Ef_init 9 = .ok (.return_, 1) := by decide +kernel
theorem d_Ef_follow_0 : decode b_Ef_follow 0 = .ok (.aload_n 1, 1) := by decide +kernel
theorem d_Ef_follow_1 : decode b_Ef_follow 1 = .ok (.getfield 15, 3) := by decide +kernel
theorem d_Ef_follow_4 : decode b_Ef_follow 4 = .ok (.istore_n 2, 1) := by decide +kernel
theorem d_Ef_follow_5 : decode b_Ef_follow 5 = .ok (.aload_n 1, 1) := by decide +kernel
theorem d_Ef_follow_6 : decode b_Ef_follow 6 = .ok (.getfield 21, 3) := by decide +kernel
theorem d_Ef_follow_9 : decode b_Ef_follow 9 = .ok (.tableswitch 308 0 16 #[83, 104, 119, 137, 167, 197, 210, 223, 260, 273, 308, 308, 308, 308, 281, 289, 297], 83) := by decide +kernel
theorem d_Ef_follow_92 : decode b_Ef_follow 92 = .ok (.aload_n 0, 1) := by decide +kernel
theorem d_Ef_follow_93 : decode b_Ef_follow 93 = .ok (.getfield 9, 3) := by decide +kernel
theorem d_Ef_follow_96 : decode b_Ef_follow 96 = .ok (.iload_n 2, 1) := by decide +kernel
theorem d_Ef_follow_97 : decode b_Ef_follow 97 = .ok (.aload_n 1, 1) := by decide +kernel
theorem d_Ef_follow_98 : decode b_Ef_follow 98 = .ok (.getfield 24, 3) := by decide +kernel
theorem d_Ef_follow_101 : decode b_Ef_follow 101 = .ok (.i2l, 1) := by decide +kernel
theorem d_Ef_follow_102 : decode b_Ef_follow 102 = .ok (.aload_n 1, 1) := by decide +kernel
theorem d_Ef_follow_103 : decode b_Ef_follow 103 = .ok (.getfield 24, 3) := by decide +kernel
theorem d_Ef_follow_106 : decode b_Ef_follow 106 = .ok (.i2l, 1) := by decide +kernel
theorem d_Ef_follow_107 : decode b_Ef_follow 107 = .ok (.invokevirtual 27, 3) := by decide +kernel
theorem d_Ef_follow_110 : decode b_Ef_follow 110 = .ok (.goto 207, 3) := by decide +kernel
theorem d_Ef_follow_113 : decode b_Ef_follow 113 = .ok (.aload_n 0, 1) := by decide +kernel
theorem d_Ef_follow_114 : decode b_Ef_follow 114 = .ok (.getfield 9, 3) := by decide +kernel
theorem d_Ef_follow_117 : decode b_Ef_follow 117 = .ok (.iload_n 2, 1) := by decide +kernel
theorem d_Ef_follow_118 : decode b_Ef_follow 118 = .ok (.aload_n 1, 1) := by decide +kernel
theorem d_Ef_follow_119 : decode b_Ef_follow 119 = .ok (.getfield 33, 3) := by decide +kernel
theorem d_Ef_follow_122 : decode b_Ef_follow 122 = .ok (.invokevirtual 36, 3) := by decide +kernel
theorem d_Ef_follow_125 : decode b_Ef_follow 125 = .ok (.goto 192, 3) := by decide +kernel
theorem d_Ef_follow_128 : decode b_Ef_follow 128 = .ok (.aload_n 0, 1) := by decide +kernel
theorem d_Ef_follow_129 : decode b_Ef_follow 129 = .ok (.iload_n 2, 1) := by decide +kernel
theorem d_Ef_follow_130 : decode b_Ef_follow 130 = .ok (.aload_n 1, 1) := by decide +kernel
theorem d_Ef_follow_131 : decode b_Ef_follow 131 = .ok (.getfield 24, 3) := by decide +kernel
theorem d_Ef_follow_134 : decode b_Ef_follow 134 = .ok (.i2l, 1) := by decide +kernel
theorem d_Ef_follow_135 : decode b_Ef_follow 135 = .ok (.aload_n 1, 1) := by decide +kernel
theorem d_Ef_follow_136 : decode b_Ef_follow 136 = .ok (.getfield 24, 3) := by decide +kernel
theorem d_Ef_follow_139 : decode b_Ef_follow 139 = .ok (.i2l, 1) := by decide +kernel
theorem d_Ef_follow_140 : decode b_Ef_follow 140 = .ok (.invokevirtual 40, 3) := by decide +kernel
theorem d_Ef_follow_143 : decode b_Ef_follow 143 = .ok (.goto 174, 3) := by decide +kernel
theorem d_Ef_follow_146 : decode b_Ef_follow 146 = .ok (.aload_n 0, 1) := by decide +kernel
theorem d_Ef_follow_147 : decode b_Ef_follow 147 = .ok (.iload_n 2, 1) := by decide +kernel
theorem d_Ef_follow_148 : decode b_Ef_follow 148 = .ok (.aload_n 0, 1) := by decide +kernel
theorem d_Ef_follow_149 : decode b_Ef_follow 149 = .ok (.getfield 9, 3) := by decide +kernel
theorem d_Ef_follow_152 : decode b_Ef_follow 152 = .ok (.aload_n 1, 1) := by decide +kernel
theorem d_Ef_follow_153 : decode b_Ef_follow 153 = .ok (.getfield 33, 3) := by decide +kernel
theorem d_Ef_follow_156 : decode b_Ef_follow 156 = .ok (.invokevirtual 43, 3) := by decide +kernel
theorem d_Ef_follow_159 : decode b_Ef_follow 159 = .ok (.aload_n 0, 1) := by decide +kernel
theorem d_Ef_follow_160 : decode b_Ef_follow 160 = .ok (.getfield 9, 3) := by decide +kernel
theorem d_Ef_follow_163 : decode b_Ef_follow 163 = .ok (.aload_n 1, 1) := by decide +kernel
theorem d_Ef_follow_164 : decode b_Ef_follow 164 = .ok (.getfield 33, 3) := by decide +kernel
theorem d_Ef_follow_167 : decode b_Ef_follow 167 = .ok (.invokevirtual 47, 3) := by decide +kernel
theorem d_Ef_follow_170 : decode b_Ef_follow 170 = .ok (.invokevirtual 40, 3) := by decide +kernel
theorem d_Ef_follow_173 : decode b_Ef_follow 173 = .ok (.goto 144, 3) := by decide +kernel
theorem d_Ef_follow_176 : decode b_Ef_follow 176 = .ok (.aload_n 0, 1) := by decide +kernel
theorem d_Ef_follow_177 : decode b_Ef_follow 177 = .ok (.iload_n 2, 1) := by decide +kernel
theorem d_Ef_follow_178 : decode b_Ef_follow 178 = .ok (.aload_n 0, 1) := by decide +kernel
theorem d_Ef_follow_179 : decode b_Ef_follow 179 = .ok (.getfield 9, 3) := by decide +kernel
theorem d_Ef_follow_182 : decode b_Ef_follow 182 = .ok (.aload_n 1, 1) := by decide +kernel
theorem d_Ef_follow_183 : decode b_Ef_follow 183 = .ok (.getfield 33, 3) := by decide +kernel
theorem d_Ef_follow_186 : decode b_Ef_follow 186 = .ok (.invokevirtual 43, 3) := by decide +kernel
theorem d_Ef_follow_189 : decode b_Ef_follow 189 = .ok (.aload_n 0, 1) := by decide +kernel
theorem d_Ef_follow_190 : decode b_Ef_follow 190 = .ok (.getfield 9, 3) := by decide +kernel
theorem d_Ef_follow_193 : decode b_Ef_follow 193 = .ok (.aload_n 1, 1) := by decide +kernel
theorem d_Ef_follow_194 : decode b_Ef_follow 194 = .ok (.getfield 33, 3) := by decide +kernel
theorem d_Ef_follow_197 : decode b_Ef_follow 197 = .ok (.invokevirtual 47, 3) := by decide +kernel
theorem d_Ef_follow_200 : decode b_Ef_follow 200 = .ok (.invokevirtual 50, 3) := by decide +kernel
theorem d_Ef_follow_203 : decode b_Ef_follow 203 = .ok (.goto 114, 3) := by decide +kernel
theorem d_Ef_follow_206 : decode b_Ef_follow 206 = .ok (.aload_n 0, 1) := by decide +kernel
theorem d_Ef_follow_207 : decode b_Ef_follow 207 = .ok (.iload_n 2, 1) := by decide +kernel
theorem d_Ef_follow_208 : decode b_Ef_follow 208 = .ok (.aload_n 1, 1) := by decide +kernel
theorem d_Ef_follow_209 : decode b_Ef_follow 209 = .ok (.getfield 24, 3) := by decide +kernel
theorem d_Ef_follow_212 : decode b_Ef_follow 212 = .ok (.i2l, 1) := by decide +kernel
theorem d_Ef_follow_213 : decode b_Ef_follow 213 = .ok (.invokevirtual 53, 3) := by decide +kernel
theorem d_Ef_follow_216 : decode b_Ef_follow 216 = .ok (.goto 101, 3) := by decide +kernel
theorem d_Ef_follow_219 : decode b_Ef_follow 219 = .ok (.aload_n 0, 1) := by decide +kernel
theorem d_Ef_follow_220 : decode b_Ef_follow 220 = .ok (.iload_n 2, 1) := by decide +kernel
theorem d_Ef_follow_221 : decode b_Ef_follow 221 = .ok (.aload_n 1, 1) := by decide +kernel
theorem d_Ef_follow_222 : decode b_Ef_follow 222 = .ok (.getfield 24, 3) := by decide +kernel
theorem d_Ef_follow_225 : decode b_Ef_follow 225 = .ok (.i2l, 1) := by decide +kernel
theorem d_Ef_follow_226 : decode b_Ef_follow 226 = .ok (.invokevirtual 57, 3) := by decide +kernel
theorem d_Ef_follow_229 : decode b_Ef_follow 229 = .ok (.goto 88, 3) := by decide +kernel
theorem d_Ef_follow_232 : decode b_Ef_follow 232 = .ok (.aload_n 0, 1) := by decide +kernel
theorem d_Ef_follow_233 : decode b_Ef_follow 233 = .ok (.getfield 9, 3) := by decide +kernel
theorem d_Ef_follow_236 : decode b_Ef_follow 236 = .ok (.iload_n 2, 1) := by decide +kernel
theorem d_Ef_follow_237 : decode b_Ef_follow 237 = .ok (.aload_n 0, 1) := by decide +kernel
theorem d_Ef_follow_238 : decode b_Ef_follow 238 = .ok (.getfield 9, 3) := by decide +kernel
theorem d_Ef_follow_241 : decode b_Ef_follow 241 = .ok (.iload_n 2, 1) := by decide +kernel
theorem d_Ef_follow_242 : decode b_Ef_follow 242 = .ok (.invokevirtual 43, 3) := by decide +kernel
theorem d_Ef_follow_245 : decode b_Ef_follow 245 = .ok (.aload_n 1, 1) := by decide +kernel
theorem d_Ef_follow_246 : decode b_Ef_follow 246 = .ok (.getfield 24, 3) := by decide +kernel
theorem d_Ef_follow_249 : decode b_Ef_follow 249 = .ok (.lshr, 1) := by decide +kernel
theorem d_Ef_follow_250 : decode b_Ef_follow 250 = .ok (.aload_n 0, 1) := by decide +kernel
theorem d_Ef_follow_251 : decode b_Ef_follow 251 = .ok (.getfield 9, 3) := by decide +kernel
theorem d_Ef_follow_254 : decode b_Ef_follow 254 = .ok (.iload_n 2, 1) := by decide +kernel
theorem d_Ef_follow_255 : decode b_Ef_follow 255 = .ok (.invokevirtual 47, 3) := by decide +kernel
theorem d_Ef_follow_258 : decode b_Ef_follow 258 = .ok (.aload_n 1, 1) := by decide +kernel
theorem d_Ef_follow_259 : decode b_Ef_follow 259 = .ok (.getfield 24, 3) := by decide +kernel
theorem d_Ef_follow_262 : decode b_Ef_follow 262 = .ok (.lshr, 1) := by decide +kernel
theorem d_Ef_follow_263 : decode b_Ef_follow 263 = .ok (.invokevirtual 27, 3) := by decide +kernel
theorem d_Ef_follow_266 : decode b_Ef_follow 266 = .ok (.goto 51, 3) := by decide +kernel
theorem d_Ef_follow_269 : decode b_Ef_follow 269 = .ok (.aload_n 0, 1) := by decide +kernel
theorem d_Ef_follow_270 : decode b_Ef_follow 270 = .ok (.iload_n 2, 1) := by decide +kernel
theorem d_Ef_follow_271 : decode b_Ef_follow 271 = .ok (.aload_n 1, 1) := by decide +kernel
theorem d_Ef_follow_272 : decode b_Ef_follow 272 = .ok (.getfield 24, 3) := by decide +kernel
theorem d_Ef_follow_275 : decode b_Ef_follow 275 = .ok (.i2l, 1) := by decide +kernel
theorem d_Ef_follow_276 : decode b_Ef_follow 276 = .ok (.invokevirtual 60, 3) := by decide +kernel
theorem d_Ef_follow_279 : decode b_Ef_follow 279 = .ok (.goto 38, 3) := by decide +kernel
theorem d_Ef_follow_282 : decode b_Ef_follow 282 = .ok (.aload_n 0, 1) := by decide +kernel
theorem d_Ef_follow_283 : decode b_Ef_follow 283 = .ok (.iload_n 2, 1) := by decide +kernel
theorem d_Ef_follow_284 : decode b_Ef_follow 284 = .ok (.invokevirtual 63, 3) := by decide +kernel
theorem d_Ef_follow_287 : decode b_Ef_follow 287 = .ok (.goto 30, 3) := by decide +kernel
theorem d_Ef_follow_290 : decode b_Ef_follow 290 = .ok (.aload_n 0, 1) := by decide +kernel
theorem d_Ef_follow_291 : decode b_Ef_follow 291 = .ok (.aload_n 1, 1) := by decide +kernel
theorem d_Ef_follow_292 : decode b_Ef_follow 292 = .ok (.invokevirtual 67, 3) := by decide +kernel
theorem d_Ef_follow_295 : decode b_Ef_follow 295 = .ok (.goto 22, 3) := by decide +kernel
theorem d_Ef_follow_298 : decode b_Ef_follow 298 = .ok (.aload_n 0, 1) := by decide +kernel
theorem d_Ef_follow_299 : decode b_Ef_follow 299 = .ok (.aload_n 1, 1) := by decide +kernel
theorem d_Ef_follow_300 : decode b_Ef_follow 300 = .ok (.invokevirtual 71, 3) := by decide +kernel
theorem d_Ef_follow_303 : decode b_Ef_follow 303 = .ok (.goto 14, 3) := by decide +kernel
theorem d_Ef_follow_306 : decode b_Ef_follow 306 = .ok (.aload_n 0, 1) := by decide +kernel
theorem d_Ef_follow_307 : decode b_Ef_follow 307 = .ok (.aload_n 1, 1) := by decide +kernel
theorem d_Ef_follow_308 : decode b_Ef_follow 308 = .ok (.getfield 24, 3) := by decide +kernel
theorem d_Ef_follow_311 : decode b_Ef_follow 311 = .ok (.invokevirtual 74, 3) := by decide +kernel
theorem d_Ef_follow_314 : decode b_Ef_follow 314 = .ok (.goto 3, 3) := by decide +kernel
theorem d_Ef_follow_317 : decode b_Ef_follow 317 = .ok (.return_, 1) := by decide +kernel
theorem d_Ef_move_0 : decode b_Ef_move 0 = .ok (.aload_n 0, 1) := by decide +kernel
theorem d_Ef_move_1 : decode b_Ef_move 1 = .ok (.getfield 9, 3) := by decide +kernel
theorem d_Ef_move_4 : decode b_Ef_move 4 = .ok (.iload_n 1, 1) := by decide +kernel
theorem d_Ef_move_5 : decode b_Ef_move 5 = .ok (.invokevirtual 43, 3) := by decide +kernel
theorem d_Ef_move_8 : decode b_Ef_move 8 = .ok (.lload_n 2, 1) := by decide +kernel
theorem d_Ef_move_9 : decode b_Ef_move 9 = .ok (.ladd, 1) := by decide +kernel
theorem d_Ef_move_10 : decode b_Ef_move 10 = .ok (.lstore 6, 2) := by decide +kernel
theorem d_Ef_move_12 : decode b_Ef_move 12 = .ok (.aload_n 0, 1) := by decide +kernel
theorem d_Ef_move_13 : decode b_Ef_move 13 = .ok (.getfield 9, 3) := by decide +kernel
theorem d_Ef_move_16 : decode b_Ef_move 16 = .ok (.iload_n 1, 1) := by decide +kernel
theorem d_Ef_move_17 : decode b_Ef_move 17 = .ok (.invokevirtual 47, 3) := by decide +kernel
theorem d_Ef_move_20 : decode b_Ef_move 20 = .ok (.lload 4, 2) := by decide +kernel
theorem d_Ef_move_22 : decode b_Ef_move 22 = .ok (.ladd, 1) := by decide +kernel
theorem d_Ef_move_23 : decode b_Ef_move 23 = .ok (.lstore 8, 2) := by decide +kernel
theorem d_Ef_move_25 : decode b_Ef_move 25 = .ok (.aload_n 0, 1) := by decide +kernel
theorem d_Ef_move_26 : decode b_Ef_move 26 = .ok (.getfield 9, 3) := by decide +kernel
theorem d_Ef_move_29 : decode b_Ef_move 29 = .ok (.iload_n 1, 1) := by decide +kernel
theorem d_Ef_move_30 : decode b_Ef_move 30 = .ok (.invokevirtual 43, 3) := by decide +kernel
theorem d_Ef_move_33 : decode b_Ef_move 33 = .ok (.lload_n 2, 1) := by decide +kernel
theorem d_Ef_move_34 : decode b_Ef_move 34 = .ok (.lload 6, 2) := by decide +kernel
theorem d_Ef_move_36 : decode b_Ef_move 36 = .ok (.invokestatic 77, 3) := by decide +kernel
theorem d_Ef_move_39 : decode b_Ef_move 39 = .ok (.ifCond .ne 21, 3) := by decide +kernel
theorem d_Ef_move_42 : decode b_Ef_move 42 = .ok (.aload_n 0, 1) := by decide +kernel
theorem d_Ef_move_43 : decode b_Ef_move 43 = .ok (.getfield 9, 3) := by decide +kernel
theorem d_Ef_move_46 : decode b_Ef_move 46 = .ok (.iload_n 1, 1) := by decide +kernel
theorem d_Ef_move_47 : decode b_Ef_move 47 = .ok (.invokevirtual 47, 3) := by decide +kernel
theorem d_Ef_move_50 : decode b_Ef_move 50 = .ok (.lload 4, 2) := by decide +kernel
theorem d_Ef_move_52 : decode b_Ef_move 52 = .ok (.lload 8, 2) := by decide +kernel
theorem d_Ef_move_54 : decode b_Ef_move 54 = .ok (.invokestatic 77, 3) := by decide +kernel
theorem d_Ef_move_57 : decode b_Ef_move 57 = .ok (.ifCond .eq 14, 3) := by decide +kernel
theorem d_Ef_move_60 : decode b_Ef_move 60 = .ok (.aload_n 0, 1) := by decide +kernel
theorem d_Ef_move_61 : decode b_Ef_move 61 = .ok (.getfield 9, 3) := by decide +kernel
theorem d_Ef_move_64 : decode b_Ef_move 64 = .ok (.iload_n 1, 1) := by decide +kernel
theorem d_Ef_move_65 : decode b_Ef_move 65 = .ok (.invokevirtual 81, 3) := by decide +kernel
theorem d_Ef_move_68 : decode b_Ef_move 68 = .ok (.goto 23, 3) := by decide +kernel
theorem d_Ef_move_71 : decode b_Ef_move 71 = .ok (.aload_n 0, 1) := by decide +kernel
theorem d_Ef_move_72 : decode b_Ef_move 72 = .ok (.getfield 9, 3) := by decide +kernel
theorem d_Ef_move_75 : decode b_Ef_move 75 = .ok (.iload_n 1, 1) := by decide +kernel
theorem d_Ef_move_76 : decode b_Ef_move 76 = .ok (.aload_n 0, 1) := by decide +kernel
theorem d_Ef_move_77 : decode b_Ef_move 77 = .ok (.getfield 9, 3) := by decide +kernel
theorem d_Ef_move_80 : decode b_Ef_move 80 = .ok (.iload_n 1, 1) := by decide +kernel
theorem d_Ef_move_81 : decode b_Ef_move 81 = .ok (.invokevirtual 84, 3) := by decide +kernel
theorem d_Ef_move_84 : decode b_Ef_move 84 = .ok (.lload 6, 2) := by decide +kernel
theorem d_Ef_move_86 : decode b_Ef_move 86 = .ok (.lload 8, 2) := by decide +kernel
theorem d_Ef_move_88 : decode b_Ef_move 88 = .ok (.invokevirtual 88, 3) := by decide +kernel
theorem d_Ef_move_91 : decode b_Ef_move 91 = .ok (.return_, 1) := by decide +kernel
theorem d_Ef_sumWraps_0 : decode b_Ef_sumWraps 0 = .ok (.lload_n 0, 1) := by decide +kernel
theorem d_Ef_sumWraps_1 : decode b_Ef_sumWraps 1 = .ok (.lload 4, 2) := by decide +kernel
theorem d_Ef_sumWraps_3 : decode b_Ef_sumWraps 3 = .ok (.lxor, 1) := by decide +kernel
theorem d_Ef_sumWraps_4 : decode b_Ef_sumWraps 4 = .ok (.lload_n 2, 1) := by decide +kernel
theorem d_Ef_sumWraps_5 : decode b_Ef_sumWraps 5 = .ok (.lload 4, 2) := by decide +kernel
theorem d_Ef_sumWraps_7 : decode b_Ef_sumWraps 7 = .ok (.lxor, 1) := by decide +kernel
theorem d_Ef_sumWraps_8 : decode b_Ef_sumWraps 8 = .ok (.land, 1) := by decide +kernel
theorem d_Ef_sumWraps_9 : decode b_Ef_sumWraps 9 = .ok (.lconst 0, 1) := by decide +kernel
theorem d_Ef_sumWraps_10 : decode b_Ef_sumWraps 10 = .ok (.lcmp, 1) := by decide +kernel
theorem d_Ef_sumWraps_11 : decode b_Ef_sumWraps 11 = .ok (.ifCond .ge 7, 3) := by decide +kernel
theorem d_Ef_sumWraps_14 : decode b_Ef_sumWraps 14 = .ok (.iconst 1, 1) := by decide +kernel
theorem d_Ef_sumWraps_15 : decode b_Ef_sumWraps 15 = .ok (.goto 4, 3) := by decide +kernel
theorem d_Ef_sumWraps_18 : decode b_Ef_sumWraps 18 = .ok (.iconst 0, 1) := by decide +kernel
theorem d_Ef_sumWraps_19 : decode b_Ef_sumWraps 19 = .ok (.ireturn, 1) := by decide +kernel
theorem d_Ef_subtract_0 : decode b_Ef_subtract 0 = .ok (.aload_n 0, 1) := by decide +kernel
theorem d_Ef_subtract_1 : decode b_Ef_subtract 1 = .ok (.getfield 9, 3) := by decide +kernel
theorem d_Ef_subtract_4 : decode b_Ef_subtract 4 = .ok (.iload_n 1, 1) := by decide +kernel
theorem d_Ef_subtract_5 : decode b_Ef_subtract 5 = .ok (.invokevirtual 43, 3) := by decide +kernel
theorem d_Ef_subtract_8 : decode b_Ef_subtract 8 = .ok (.lload 4, 2) := by decide +kernel
theorem d_Ef_subtract_10 : decode b_Ef_subtract 10 = .ok (.lsub, 1) := by decide +kernel
theorem d_Ef_subtract_11 : decode b_Ef_subtract 11 = .ok (.lstore 6, 2) := by decide +kernel
theorem d_Ef_subtract_13 : decode b_Ef_subtract 13 = .ok (.aload_n 0, 1) := by decide +kernel
theorem d_Ef_subtract_14 : decode b_Ef_subtract 14 = .ok (.getfield 9, 3) := by decide +kernel
theorem d_Ef_subtract_17 : decode b_Ef_subtract 17 = .ok (.iload_n 1, 1) := by decide +kernel
theorem d_Ef_subtract_18 : decode b_Ef_subtract 18 = .ok (.invokevirtual 47, 3) := by decide +kernel
theorem d_Ef_subtract_21 : decode b_Ef_subtract 21 = .ok (.lload_n 2, 1) := by decide +kernel
theorem d_Ef_subtract_22 : decode b_Ef_subtract 22 = .ok (.lsub, 1) := by decide +kernel
theorem d_Ef_subtract_23 : decode b_Ef_subtract 23 = .ok (.lstore 8, 2) := by decide +kernel
theorem d_Ef_subtract_25 : decode b_Ef_subtract 25 = .ok (.aload_n 0, 1) := by decide +kernel
theorem d_Ef_subtract_26 : decode b_Ef_subtract 26 = .ok (.getfield 9, 3) := by decide +kernel
theorem d_Ef_subtract_29 : decode b_Ef_subtract 29 = .ok (.iload_n 1, 1) := by decide +kernel
theorem d_Ef_subtract_30 : decode b_Ef_subtract 30 = .ok (.invokevirtual 43, 3) := by decide +kernel
theorem d_Ef_subtract_33 : decode b_Ef_subtract 33 = .ok (.lload 4, 2) := by decide +kernel
theorem d_Ef_subtract_35 : decode b_Ef_subtract 35 = .ok (.lload 6, 2) := by decide +kernel
theorem d_Ef_subtract_37 : decode b_Ef_subtract 37 = .ok (.invokestatic 92, 3) := by decide +kernel
theorem d_Ef_subtract_40 : decode b_Ef_subtract 40 = .ok (.ifCond .ne 20, 3) := by decide +kernel
theorem d_Ef_subtract_43 : decode b_Ef_subtract 43 = .ok (.aload_n 0, 1) := by decide +kernel
theorem d_Ef_subtract_44 : decode b_Ef_subtract 44 = .ok (.getfield 9, 3) := by decide +kernel
theorem d_Ef_subtract_47 : decode b_Ef_subtract 47 = .ok (.iload_n 1, 1) := by decide +kernel
theorem d_Ef_subtract_48 : decode b_Ef_subtract 48 = .ok (.invokevirtual 47, 3) := by decide +kernel
theorem d_Ef_subtract_51 : decode b_Ef_subtract 51 = .ok (.lload_n 2, 1) := by decide +kernel
theorem d_Ef_subtract_52 : decode b_Ef_subtract 52 = .ok (.lload 8, 2) := by decide +kernel
theorem d_Ef_subtract_54 : decode b_Ef_subtract 54 = .ok (.invokestatic 92, 3) := by decide +kernel
theorem d_Ef_subtract_57 : decode b_Ef_subtract 57 = .ok (.ifCond .eq 14, 3) := by decide +kernel
theorem d_Ef_subtract_60 : decode b_Ef_subtract 60 = .ok (.aload_n 0, 1) := by decide +kernel
theorem d_Ef_subtract_61 : decode b_Ef_subtract 61 = .ok (.getfield 9, 3) := by decide +kernel
theorem d_Ef_subtract_64 : decode b_Ef_subtract 64 = .ok (.iload_n 1, 1) := by decide +kernel
theorem d_Ef_subtract_65 : decode b_Ef_subtract 65 = .ok (.invokevirtual 81, 3) := by decide +kernel
theorem d_Ef_subtract_68 : decode b_Ef_subtract 68 = .ok (.goto 15, 3) := by decide +kernel
theorem d_Ef_subtract_71 : decode b_Ef_subtract 71 = .ok (.aload_n 0, 1) := by decide +kernel
theorem d_Ef_subtract_72 : decode b_Ef_subtract 72 = .ok (.getfield 9, 3) := by decide +kernel
theorem d_Ef_subtract_75 : decode b_Ef_subtract 75 = .ok (.iload_n 1, 1) := by decide +kernel
theorem d_Ef_subtract_76 : decode b_Ef_subtract 76 = .ok (.lload 6, 2) := by decide +kernel
theorem d_Ef_subtract_78 : decode b_Ef_subtract 78 = .ok (.lload 8, 2) := by decide +kernel
theorem d_Ef_subtract_80 : decode b_Ef_subtract 80 = .ok (.invokevirtual 27, 3) := by decide +kernel
theorem d_Ef_subtract_83 : decode b_Ef_subtract 83 = .ok (.return_, 1) := by decide +kernel
theorem d_Ef_differenceWraps_0 : decode b_Ef_differenceWraps 0 = .ok (.lload_n 0, 1) := by decide +kernel
theorem d_Ef_differenceWraps_1 : decode b_Ef_differenceWraps 1 = .ok (.lload_n 2, 1) := by decide +kernel
theorem d_Ef_differenceWraps_2 : decode b_Ef_differenceWraps 2 = .ok (.lxor, 1) := by decide +kernel
theorem d_Ef_differenceWraps_3 : decode b_Ef_differenceWraps 3 = .ok (.lload_n 0, 1) := by decide +kernel
theorem d_Ef_differenceWraps_4 : decode b_Ef_differenceWraps 4 = .ok (.lload 4, 2) := by decide +kernel
theorem d_Ef_differenceWraps_6 : decode b_Ef_differenceWraps 6 = .ok (.lxor, 1) := by decide +kernel
theorem d_Ef_differenceWraps_7 : decode b_Ef_differenceWraps 7 = .ok (.land, 1) := by decide +kernel
theorem d_Ef_differenceWraps_8 : decode b_Ef_differenceWraps 8 = .ok (.lconst 0, 1) := by decide +kernel
theorem d_Ef_differenceWraps_9 : decode b_Ef_differenceWraps 9 = .ok (.lcmp, 1) := by decide +kernel
theorem d_Ef_differenceWraps_10 : decode b_Ef_differenceWraps 10 = .ok (.ifCond .ge 7, 3) := by decide +kernel
theorem d_Ef_differenceWraps_13 : decode b_Ef_differenceWraps 13 = .ok (.iconst 1, 1) := by decide +kernel
theorem d_Ef_differenceWraps_14 : decode b_Ef_differenceWraps 14 = .ok (.goto 4, 3) := by decide +kernel
theorem d_Ef_differenceWraps_17 : decode b_Ef_differenceWraps 17 = .ok (.iconst 0, 1) := by decide +kernel
theorem d_Ef_differenceWraps_18 : decode b_Ef_differenceWraps 18 = .ok (.ireturn, 1) := by decide +kernel
theorem d_Ef_multiply_0 : decode b_Ef_multiply 0 = .ok (.aload_n 0, 1) := by decide +kernel
theorem d_Ef_multiply_1 : decode b_Ef_multiply 1 = .ok (.getfield 9, 3) := by decide +kernel
theorem d_Ef_multiply_4 : decode b_Ef_multiply 4 = .ok (.iload_n 1, 1) := by decide +kernel
theorem d_Ef_multiply_5 : decode b_Ef_multiply 5 = .ok (.invokevirtual 43, 3) := by decide +kernel
theorem d_Ef_multiply_8 : decode b_Ef_multiply 8 = .ok (.invokestatic 95, 3) := by decide +kernel
theorem d_Ef_multiply_11 : decode b_Ef_multiply 11 = .ok (.ifCond .eq 48, 3) := by decide +kernel
theorem d_Ef_multiply_14 : decode b_Ef_multiply 14 = .ok (.aload_n 0, 1) := by decide +kernel
theorem d_Ef_multiply_15 : decode b_Ef_multiply 15 = .ok (.getfield 9, 3) := by decide +kernel
theorem d_Ef_multiply_18 : decode b_Ef_multiply 18 = .ok (.iload_n 1, 1) := by decide +kernel
theorem d_Ef_multiply_19 : decode b_Ef_multiply 19 = .ok (.invokevirtual 47, 3) := by decide +kernel
theorem d_Ef_multiply_22 : decode b_Ef_multiply 22 = .ok (.invokestatic 95, 3) := by decide +kernel
theorem d_Ef_multiply_25 : decode b_Ef_multiply 25 = .ok (.ifCond .eq 34, 3) := by decide +kernel
theorem d_Ef_multiply_28 : decode b_Ef_multiply 28 = .ok (.aload_n 0, 1) := by decide +kernel
theorem d_Ef_multiply_29 : decode b_Ef_multiply 29 = .ok (.getfield 9, 3) := by decide +kernel
theorem d_Ef_multiply_32 : decode b_Ef_multiply 32 = .ok (.iload_n 1, 1) := by decide +kernel
theorem d_Ef_multiply_33 : decode b_Ef_multiply 33 = .ok (.aload_n 0, 1) := by decide +kernel
theorem d_Ef_multiply_34 : decode b_Ef_multiply 34 = .ok (.getfield 9, 3) := by decide +kernel
theorem d_Ef_multiply_37 : decode b_Ef_multiply 37 = .ok (.iload_n 1, 1) := by decide +kernel
theorem d_Ef_multiply_38 : decode b_Ef_multiply 38 = .ok (.invokevirtual 43, 3) := by decide +kernel
theorem d_Ef_multiply_41 : decode b_Ef_multiply 41 = .ok (.lload_n 2, 1) := by decide +kernel
theorem d_Ef_multiply_42 : decode b_Ef_multiply 42 = .ok (.lmul, 1) := by decide +kernel
theorem d_Ef_multiply_43 : decode b_Ef_multiply 43 = .ok (.aload_n 0, 1) := by decide +kernel
theorem d_Ef_multiply_44 : decode b_Ef_multiply 44 = .ok (.getfield 9, 3) := by decide +kernel
theorem d_Ef_multiply_47 : decode b_Ef_multiply 47 = .ok (.iload_n 1, 1) := by decide +kernel
theorem d_Ef_multiply_48 : decode b_Ef_multiply 48 = .ok (.invokevirtual 47, 3) := by decide +kernel
theorem d_Ef_multiply_51 : decode b_Ef_multiply 51 = .ok (.lload_n 2, 1) := by decide +kernel
theorem d_Ef_multiply_52 : decode b_Ef_multiply 52 = .ok (.lmul, 1) := by decide +kernel
theorem d_Ef_multiply_53 : decode b_Ef_multiply 53 = .ok (.invokevirtual 99, 3) := by decide +kernel
theorem d_Ef_multiply_56 : decode b_Ef_multiply 56 = .ok (.goto 11, 3) := by decide +kernel
theorem d_Ef_multiply_59 : decode b_Ef_multiply 59 = .ok (.aload_n 0, 1) := by decide +kernel
theorem d_Ef_multiply_60 : decode b_Ef_multiply 60 = .ok (.getfield 9, 3) := by decide +kernel
theorem d_Ef_multiply_63 : decode b_Ef_multiply 63 = .ok (.iload_n 1, 1) := by decide +kernel
theorem d_Ef_multiply_64 : decode b_Ef_multiply 64 = .ok (.invokevirtual 81, 3) := by decide +kernel
theorem d_Ef_multiply_67 : decode b_Ef_multiply 67 = .ok (.return_, 1) := by decide +kernel
theorem d_Ef_isFactor_0 : decode b_Ef_isFactor 0 = .ok (.lload_n 0, 1) := by decide +kernel
theorem d_Ef_isFactor_1 : decode b_Ef_isFactor 1 = .ok (.ldc2_w 102, 3) := by decide +kernel
theorem d_Ef_isFactor_4 : decode b_Ef_isFactor 4 = .ok (.lcmp, 1) := by decide +kernel
theorem d_Ef_isFactor_5 : decode b_Ef_isFactor 5 = .ok (.ifCond .lt 15, 3) := by decide +kernel
theorem d_Ef_isFactor_8 : decode b_Ef_isFactor 8 = .ok (.lload_n 0, 1) := by decide +kernel
theorem d_Ef_isFactor_9 : decode b_Ef_isFactor 9 = .ok (.ldc2_w 104, 3) := by decide +kernel
theorem d_Ef_isFactor_12 : decode b_Ef_isFactor 12 = .ok (.lcmp, 1) := by decide +kernel
theorem d_Ef_isFactor_13 : decode b_Ef_isFactor 13 = .ok (.ifCond .gt 7, 3) := by decide +kernel
theorem d_Ef_isFactor_16 : decode b_Ef_isFactor 16 = .ok (.iconst 1, 1) := by decide +kernel
theorem d_Ef_isFactor_17 : decode b_Ef_isFactor 17 = .ok (.goto 4, 3) := by decide +kernel
theorem d_Ef_isFactor_20 : decode b_Ef_isFactor 20 = .ok (.iconst 0, 1) := by decide +kernel
theorem d_Ef_isFactor_21 : decode b_Ef_isFactor 21 = .ok (.ireturn, 1) := by decide +kernel
theorem d_Ef_mask_0 : decode b_Ef_mask 0 = .ok (.aload_n 0, 1) := by decide +kernel
theorem d_Ef_mask_1 : decode b_Ef_mask 1 = .ok (.getfield 9, 3) := by decide +kernel
theorem d_Ef_mask_4 : decode b_Ef_mask 4 = .ok (.iload_n 1, 1) := by decide +kernel
theorem d_Ef_mask_5 : decode b_Ef_mask 5 = .ok (.invokevirtual 43, 3) := by decide +kernel
theorem d_Ef_mask_8 : decode b_Ef_mask 8 = .ok (.aload_n 0, 1) := by decide +kernel
theorem d_Ef_mask_9 : decode b_Ef_mask 9 = .ok (.getfield 9, 3) := by decide +kernel
theorem d_Ef_mask_12 : decode b_Ef_mask 12 = .ok (.iload_n 1, 1) := by decide +kernel
theorem d_Ef_mask_13 : decode b_Ef_mask 13 = .ok (.invokevirtual 47, 3) := by decide +kernel
theorem d_Ef_mask_16 : decode b_Ef_mask 16 = .ok (.lcmp, 1) := by decide +kernel
theorem d_Ef_mask_17 : decode b_Ef_mask 17 = .ok (.ifCond .ne 34, 3) := by decide +kernel
theorem d_Ef_mask_20 : decode b_Ef_mask 20 = .ok (.aload_n 0, 1) := by decide +kernel
theorem d_Ef_mask_21 : decode b_Ef_mask 21 = .ok (.getfield 9, 3) := by decide +kernel
theorem d_Ef_mask_24 : decode b_Ef_mask 24 = .ok (.iload_n 1, 1) := by decide +kernel
theorem d_Ef_mask_25 : decode b_Ef_mask 25 = .ok (.aload_n 0, 1) := by decide +kernel
theorem d_Ef_mask_26 : decode b_Ef_mask 26 = .ok (.getfield 9, 3) := by decide +kernel
theorem d_Ef_mask_29 : decode b_Ef_mask 29 = .ok (.iload_n 1, 1) := by decide +kernel
theorem d_Ef_mask_30 : decode b_Ef_mask 30 = .ok (.invokevirtual 43, 3) := by decide +kernel
theorem d_Ef_mask_33 : decode b_Ef_mask 33 = .ok (.lload_n 2, 1) := by decide +kernel
theorem d_Ef_mask_34 : decode b_Ef_mask 34 = .ok (.land, 1) := by decide +kernel
theorem d_Ef_mask_35 : decode b_Ef_mask 35 = .ok (.aload_n 0, 1) := by decide +kernel
theorem d_Ef_mask_36 : decode b_Ef_mask 36 = .ok (.getfield 9, 3) := by decide +kernel
theorem d_Ef_mask_39 : decode b_Ef_mask 39 = .ok (.iload_n 1, 1) := by decide +kernel
theorem d_Ef_mask_40 : decode b_Ef_mask 40 = .ok (.invokevirtual 43, 3) := by decide +kernel
theorem d_Ef_mask_43 : decode b_Ef_mask 43 = .ok (.lload_n 2, 1) := by decide +kernel
theorem d_Ef_mask_44 : decode b_Ef_mask 44 = .ok (.land, 1) := by decide +kernel
theorem d_Ef_mask_45 : decode b_Ef_mask 45 = .ok (.invokevirtual 27, 3) := by decide +kernel
theorem d_Ef_mask_48 : decode b_Ef_mask 48 = .ok (.goto 58, 3) := by decide +kernel
theorem d_Ef_mask_51 : decode b_Ef_mask 51 = .ok (.lload_n 2, 1) := by decide +kernel
theorem d_Ef_mask_52 : decode b_Ef_mask 52 = .ok (.lconst 0, 1) := by decide +kernel
theorem d_Ef_mask_53 : decode b_Ef_mask 53 = .ok (.lcmp, 1) := by decide +kernel
theorem d_Ef_mask_54 : decode b_Ef_mask 54 = .ok (.ifCond .ge 14, 3) := by decide +kernel
theorem d_Ef_mask_57 : decode b_Ef_mask 57 = .ok (.aload_n 0, 1) := by decide +kernel
theorem d_Ef_mask_58 : decode b_Ef_mask 58 = .ok (.getfield 9, 3) := by decide +kernel
theorem d_Ef_mask_61 : decode b_Ef_mask 61 = .ok (.iload_n 1, 1) := by decide +kernel
theorem d_Ef_mask_62 : decode b_Ef_mask 62 = .ok (.invokevirtual 81, 3) := by decide +kernel
theorem d_Ef_mask_65 : decode b_Ef_mask 65 = .ok (.goto 41, 3) := by decide +kernel
theorem d_Ef_mask_68 : decode b_Ef_mask 68 = .ok (.aload_n 0, 1) := by decide +kernel
theorem d_Ef_mask_69 : decode b_Ef_mask 69 = .ok (.getfield 9, 3) := by decide +kernel
theorem d_Ef_mask_72 : decode b_Ef_mask 72 = .ok (.iload_n 1, 1) := by decide +kernel
theorem d_Ef_mask_73 : decode b_Ef_mask 73 = .ok (.lconst 0, 1) := by decide +kernel
theorem d_Ef_mask_74 : decode b_Ef_mask 74 = .ok (.aload_n 0, 1) := by decide +kernel
theorem d_Ef_mask_75 : decode b_Ef_mask 75 = .ok (.getfield 9, 3) := by decide +kernel
theorem d_Ef_mask_78 : decode b_Ef_mask 78 = .ok (.iload_n 1, 1) := by decide +kernel
theorem d_Ef_mask_79 : decode b_Ef_mask 79 = .ok (.invokevirtual 43, 3) := by decide +kernel
theorem d_Ef_mask_82 : decode b_Ef_mask 82 = .ok (.lconst 0, 1) := by decide +kernel
theorem d_Ef_mask_83 : decode b_Ef_mask 83 = .ok (.lcmp, 1) := by decide +kernel
theorem d_Ef_mask_84 : decode b_Ef_mask 84 = .ok (.ifCond .ge 7, 3) := by decide +kernel
theorem d_Ef_mask_87 : decode b_Ef_mask 87 = .ok (.lload_n 2, 1) := by decide +kernel
theorem d_Ef_mask_88 : decode b_Ef_mask 88 = .ok (.goto 15, 3) := by decide +kernel
theorem d_Ef_mask_91 : decode b_Ef_mask 91 = .ok (.lload_n 2, 1) := by decide +kernel
theorem d_Ef_mask_92 : decode b_Ef_mask 92 = .ok (.aload_n 0, 1) := by decide +kernel
theorem d_Ef_mask_93 : decode b_Ef_mask 93 = .ok (.getfield 9, 3) := by decide +kernel
theorem d_Ef_mask_96 : decode b_Ef_mask 96 = .ok (.iload_n 1, 1) := by decide +kernel
theorem d_Ef_mask_97 : decode b_Ef_mask 97 = .ok (.invokevirtual 47, 3) := by decide +kernel
theorem d_Ef_mask_100 : decode b_Ef_mask 100 = .ok (.invokestatic 106, 3) := by decide +kernel
theorem d_Ef_mask_103 : decode b_Ef_mask 103 = .ok (.invokevirtual 27, 3) := by decide +kernel
theorem d_Ef_mask_106 : decode b_Ef_mask 106 = .ok (.return_, 1) := by decide +kernel
theorem d_Ef_divide_0 : decode b_Ef_divide 0 = .ok (.lload_n 2, 1) := by decide +kernel
theorem d_Ef_divide_1 : decode b_Ef_divide 1 = .ok (.lconst 0, 1) := by decide +kernel
theorem d_Ef_divide_2 : decode b_Ef_divide 2 = .ok (.lcmp, 1) := by decide +kernel
theorem d_Ef_divide_3 : decode b_Ef_divide 3 = .ok (.ifCond .eq 26, 3) := by decide +kernel
theorem d_Ef_divide_6 : decode b_Ef_divide 6 = .ok (.lload_n 2, 1) := by decide +kernel
theorem d_Ef_divide_7 : decode b_Ef_divide 7 = .ok (.ldc2_w 112, 3) := by decide +kernel
theorem d_Ef_divide_10 : decode b_Ef_divide 10 = .ok (.lcmp, 1) := by decide +kernel
theorem d_Ef_divide_11 : decode b_Ef_divide 11 = .ok (.ifCond .ne 29, 3) := by decide +kernel
theorem d_Ef_divide_14 : decode b_Ef_divide 14 = .ok (.aload_n 0, 1) := by decide +kernel
theorem d_Ef_divide_15 : decode b_Ef_divide 15 = .ok (.getfield 9, 3) := by decide +kernel
theorem d_Ef_divide_18 : decode b_Ef_divide 18 = .ok (.iload_n 1, 1) := by decide +kernel
theorem d_Ef_divide_19 : decode b_Ef_divide 19 = .ok (.invokevirtual 43, 3) := by decide +kernel
theorem d_Ef_divide_22 : decode b_Ef_divide 22 = .ok (.ldc2_w 116, 3) := by decide +kernel
theorem d_Ef_divide_25 : decode b_Ef_divide 25 = .ok (.lcmp, 1) := by decide +kernel
theorem d_Ef_divide_26 : decode b_Ef_divide 26 = .ok (.ifCond .ne 14, 3) := by decide +kernel
theorem d_Ef_divide_29 : decode b_Ef_divide 29 = .ok (.aload_n 0, 1) := by decide +kernel
theorem d_Ef_divide_30 : decode b_Ef_divide 30 = .ok (.getfield 9, 3) := by decide +kernel
theorem d_Ef_divide_33 : decode b_Ef_divide 33 = .ok (.iload_n 1, 1) := by decide +kernel
theorem d_Ef_divide_34 : decode b_Ef_divide 34 = .ok (.invokevirtual 81, 3) := by decide +kernel
theorem d_Ef_divide_37 : decode b_Ef_divide 37 = .ok (.goto 31, 3) := by decide +kernel
theorem d_Ef_divide_40 : decode b_Ef_divide 40 = .ok (.aload_n 0, 1) := by decide +kernel
theorem d_Ef_divide_41 : decode b_Ef_divide 41 = .ok (.getfield 9, 3) := by decide +kernel
theorem d_Ef_divide_44 : decode b_Ef_divide 44 = .ok (.iload_n 1, 1) := by decide +kernel
theorem d_Ef_divide_45 : decode b_Ef_divide 45 = .ok (.aload_n 0, 1) := by decide +kernel
theorem d_Ef_divide_46 : decode b_Ef_divide 46 = .ok (.getfield 9, 3) := by decide +kernel
theorem d_Ef_divide_49 : decode b_Ef_divide 49 = .ok (.iload_n 1, 1) := by decide +kernel
theorem d_Ef_divide_50 : decode b_Ef_divide 50 = .ok (.invokevirtual 43, 3) := by decide +kernel
theorem d_Ef_divide_53 : decode b_Ef_divide 53 = .ok (.lload_n 2, 1) := by decide +kernel
theorem d_Ef_divide_54 : decode b_Ef_divide 54 = .ok (.ldiv, 1) := by decide +kernel
theorem d_Ef_divide_55 : decode b_Ef_divide 55 = .ok (.aload_n 0, 1) := by decide +kernel
theorem d_Ef_divide_56 : decode b_Ef_divide 56 = .ok (.getfield 9, 3) := by decide +kernel
theorem d_Ef_divide_59 : decode b_Ef_divide 59 = .ok (.iload_n 1, 1) := by decide +kernel
theorem d_Ef_divide_60 : decode b_Ef_divide 60 = .ok (.invokevirtual 47, 3) := by decide +kernel
theorem d_Ef_divide_63 : decode b_Ef_divide 63 = .ok (.lload_n 2, 1) := by decide +kernel
theorem d_Ef_divide_64 : decode b_Ef_divide 64 = .ok (.ldiv, 1) := by decide +kernel
theorem d_Ef_divide_65 : decode b_Ef_divide 65 = .ok (.invokevirtual 99, 3) := by decide +kernel
theorem d_Ef_divide_68 : decode b_Ef_divide 68 = .ok (.return_, 1) := by decide +kernel
theorem d_Ef_negate_0 : decode b_Ef_negate 0 = .ok (.aload_n 0, 1) := by decide +kernel
theorem d_Ef_negate_1 : decode b_Ef_negate 1 = .ok (.getfield 9, 3) := by decide +kernel
theorem d_Ef_negate_4 : decode b_Ef_negate 4 = .ok (.iload_n 1, 1) := by decide +kernel
theorem d_Ef_negate_5 : decode b_Ef_negate 5 = .ok (.invokevirtual 43, 3) := by decide +kernel
theorem d_Ef_negate_8 : decode b_Ef_negate 8 = .ok (.ldc2_w 116, 3) := by decide +kernel
theorem d_Ef_negate_11 : decode b_Ef_negate 11 = .ok (.lcmp, 1) := by decide +kernel
theorem d_Ef_negate_12 : decode b_Ef_negate 12 = .ok (.ifCond .ne 14, 3) := by decide +kernel
theorem d_Ef_negate_15 : decode b_Ef_negate 15 = .ok (.aload_n 0, 1) := by decide +kernel
theorem d_Ef_negate_16 : decode b_Ef_negate 16 = .ok (.getfield 9, 3) := by decide +kernel
theorem d_Ef_negate_19 : decode b_Ef_negate 19 = .ok (.iload_n 1, 1) := by decide +kernel
theorem d_Ef_negate_20 : decode b_Ef_negate 20 = .ok (.invokevirtual 81, 3) := by decide +kernel
theorem d_Ef_negate_23 : decode b_Ef_negate 23 = .ok (.goto 29, 3) := by decide +kernel
theorem d_Ef_negate_26 : decode b_Ef_negate 26 = .ok (.aload_n 0, 1) := by decide +kernel
theorem d_Ef_negate_27 : decode b_Ef_negate 27 = .ok (.getfield 9, 3) := by decide +kernel
theorem d_Ef_negate_30 : decode b_Ef_negate 30 = .ok (.iload_n 1, 1) := by decide +kernel
theorem d_Ef_negate_31 : decode b_Ef_negate 31 = .ok (.aload_n 0, 1) := by decide +kernel
theorem d_Ef_negate_32 : decode b_Ef_negate 32 = .ok (.getfield 9, 3) := by decide +kernel
theorem d_Ef_negate_35 : decode b_Ef_negate 35 = .ok (.iload_n 1, 1) := by decide +kernel
theorem d_Ef_negate_36 : decode b_Ef_negate 36 = .ok (.invokevirtual 47, 3) := by decide +kernel
theorem d_Ef_negate_39 : decode b_Ef_negate 39 = .ok (.lneg, 1) := by decide +kernel
theorem d_Ef_negate_40 : decode b_Ef_negate 40 = .ok (.aload_n 0, 1) := by decide +kernel
theorem d_Ef_negate_41 : decode b_Ef_negate 41 = .ok (.getfield 9, 3) := by decide +kernel
theorem d_Ef_negate_44 : decode b_Ef_negate 44 = .ok (.iload_n 1, 1) := by decide +kernel
theorem d_Ef_negate_45 : decode b_Ef_negate 45 = .ok (.invokevirtual 43, 3) := by decide +kernel
theorem d_Ef_negate_48 : decode b_Ef_negate 48 = .ok (.lneg, 1) := by decide +kernel
theorem d_Ef_negate_49 : decode b_Ef_negate 49 = .ok (.invokevirtual 27, 3) := by decide +kernel
theorem d_Ef_negate_52 : decode b_Ef_negate 52 = .ok (.return_, 1) := by decide +kernel
theorem d_Ef_load_0 : decode b_Ef_load 0 = .ok (.aload_n 0, 1) := by decide +kernel
theorem d_Ef_load_1 : decode b_Ef_load 1 = .ok (.getfield 9, 3) := by decide +kernel
theorem d_Ef_load_4 : decode b_Ef_load 4 = .ok (.aload_n 1, 1) := by decide +kernel
theorem d_Ef_load_5 : decode b_Ef_load 5 = .ok (.getfield 33, 3) := by decide +kernel
theorem d_Ef_load_8 : decode b_Ef_load 8 = .ok (.invokevirtual 84, 3) := by decide +kernel
theorem d_Ef_load_11 : decode b_Ef_load 11 = .ok (.iconst 2, 1) := by decide +kernel
theorem d_Ef_load_12 : decode b_Ef_load 12 = .ok (.if_icmp .eq 15, 3) := by decide +kernel
theorem d_Ef_load_15 : decode b_Ef_load 15 = .ok (.aload_n 0, 1) := by decide +kernel
theorem d_Ef_load_16 : decode b_Ef_load 16 = .ok (.getfield 9, 3) := by decide +kernel
theorem d_Ef_load_19 : decode b_Ef_load 19 = .ok (.aload_n 1, 1) := by decide +kernel
theorem d_Ef_load_20 : decode b_Ef_load 20 = .ok (.getfield 15, 3) := by decide +kernel
theorem d_Ef_load_23 : decode b_Ef_load 23 = .ok (.invokevirtual 81, 3) := by decide +kernel
theorem d_Ef_load_26 : decode b_Ef_load 26 = .ok (.return_, 1) := by decide +kernel
theorem d_Ef_load_27 : decode b_Ef_load 27 = .ok (.aload_n 0, 1) := by decide +kernel
theorem d_Ef_load_28 : decode b_Ef_load 28 = .ok (.getfield 9, 3) := by decide +kernel
theorem d_Ef_load_31 : decode b_Ef_load 31 = .ok (.aload_n 1, 1) := by decide +kernel
theorem d_Ef_load_32 : decode b_Ef_load 32 = .ok (.getfield 33, 3) := by decide +kernel
theorem d_Ef_load_35 : decode b_Ef_load 35 = .ok (.invokevirtual 43, 3) := by decide +kernel
theorem d_Ef_load_38 : decode b_Ef_load 38 = .ok (.aload_n 1, 1) := by decide +kernel
theorem d_Ef_load_39 : decode b_Ef_load 39 = .ok (.getfield 24, 3) := by decide +kernel
theorem d_Ef_load_42 : decode b_Ef_load 42 = .ok (.i2l, 1) := by decide +kernel
theorem d_Ef_load_43 : decode b_Ef_load 43 = .ok (.ladd, 1) := by decide +kernel
theorem d_Ef_load_44 : decode b_Ef_load 44 = .ok (.lstore_n 2, 1) := by decide +kernel
theorem d_Ef_load_45 : decode b_Ef_load 45 = .ok (.aload_n 0, 1) := by decide +kernel
theorem d_Ef_load_46 : decode b_Ef_load 46 = .ok (.getfield 9, 3) := by decide +kernel
theorem d_Ef_load_49 : decode b_Ef_load 49 = .ok (.aload_n 1, 1) := by decide +kernel
theorem d_Ef_load_50 : decode b_Ef_load 50 = .ok (.getfield 33, 3) := by decide +kernel
theorem d_Ef_load_53 : decode b_Ef_load 53 = .ok (.invokevirtual 47, 3) := by decide +kernel
theorem d_Ef_load_56 : decode b_Ef_load 56 = .ok (.aload_n 1, 1) := by decide +kernel
theorem d_Ef_load_57 : decode b_Ef_load 57 = .ok (.getfield 24, 3) := by decide +kernel
theorem d_Ef_load_60 : decode b_Ef_load 60 = .ok (.i2l, 1) := by decide +kernel
theorem d_Ef_load_61 : decode b_Ef_load 61 = .ok (.ladd, 1) := by decide +kernel
theorem d_Ef_load_62 : decode b_Ef_load 62 = .ok (.lstore 4, 2) := by decide +kernel
theorem d_Ef_load_64 : decode b_Ef_load 64 = .ok (.iconst 0, 1) := by decide +kernel
theorem d_Ef_load_65 : decode b_Ef_load 65 = .ok (.istore 6, 2) := by decide +kernel
theorem d_Ef_load_67 : decode b_Ef_load 67 = .ok (.iload 6, 2) := by decide +kernel
theorem d_Ef_load_69 : decode b_Ef_load 69 = .ok (.bipush 6, 2) := by decide +kernel
theorem d_Ef_load_71 : decode b_Ef_load 71 = .ok (.if_icmp .ge 86, 3) := by decide +kernel
theorem d_Ef_load_74 : decode b_Ef_load 74 = .ok (.bipush 6, 2) := by decide +kernel
theorem d_Ef_load_76 : decode b_Ef_load 76 = .ok (.iload 6, 2) := by decide +kernel
theorem d_Ef_load_78 : decode b_Ef_load 78 = .ok (.iadd, 1) := by decide +kernel
theorem d_Ef_load_79 : decode b_Ef_load 79 = .ok (.istore 7, 2) := by decide +kernel
theorem d_Ef_load_81 : decode b_Ef_load 81 = .ok (.iload 6, 2) := by decide +kernel
theorem d_Ef_load_83 : decode b_Ef_load 83 = .ok (.i2l, 1) := by decide +kernel
theorem d_Ef_load_84 : decode b_Ef_load 84 = .ok (.lload_n 2, 1) := by decide +kernel
theorem d_Ef_load_85 : decode b_Ef_load 85 = .ok (.lcmp, 1) := by decide +kernel
theorem d_Ef_load_86 : decode b_Ef_load 86 = .ok (.ifCond .ne 19, 3) := by decide +kernel
theorem d_Ef_load_89 : decode b_Ef_load 89 = .ok (.aload_n 0, 1) := by decide +kernel
theorem d_Ef_load_90 : decode b_Ef_load 90 = .ok (.getfield 9, 3) := by decide +kernel
theorem d_Ef_load_93 : decode b_Ef_load 93 = .ok (.aload_n 1, 1) := by decide +kernel
theorem d_Ef_load_94 : decode b_Ef_load 94 = .ok (.getfield 15, 3) := by decide +kernel
theorem d_Ef_load_97 : decode b_Ef_load 97 = .ok (.iload 7, 2) := by decide +kernel
theorem d_Ef_load_99 : decode b_Ef_load 99 = .ok (.invokevirtual 36, 3) := by decide +kernel
theorem d_Ef_load_102 : decode b_Ef_load 102 = .ok (.goto 49, 3) := by decide +kernel
theorem d_Ef_load_105 : decode b_Ef_load 105 = .ok (.iload 6, 2) := by decide +kernel
theorem d_Ef_load_107 : decode b_Ef_load 107 = .ok (.i2l, 1) := by decide +kernel
theorem d_Ef_load_108 : decode b_Ef_load 108 = .ok (.lload_n 2, 1) := by decide +kernel
theorem d_Ef_load_109 : decode b_Ef_load 109 = .ok (.lcmp, 1) := by decide +kernel
theorem d_Ef_load_110 : decode b_Ef_load 110 = .ok (.ifCond .le 41, 3) := by decide +kernel
theorem d_Ef_load_113 : decode b_Ef_load 113 = .ok (.iload 6, 2) := by decide +kernel
theorem d_Ef_load_115 : decode b_Ef_load 115 = .ok (.i2l, 1) := by decide +kernel
theorem d_Ef_load_116 : decode b_Ef_load 116 = .ok (.lload 4, 2) := by decide +kernel
theorem d_Ef_load_118 : decode b_Ef_load 118 = .ok (.lcmp, 1) := by decide +kernel
theorem d_Ef_load_119 : decode b_Ef_load 119 = .ok (.ifCond .gt 32, 3) := by decide +kernel
theorem d_Ef_load_122 : decode b_Ef_load 122 = .ok (.aload_n 0, 1) := by decide +kernel
theorem d_Ef_load_123 : decode b_Ef_load 123 = .ok (.getfield 9, 3) := by decide +kernel
theorem d_Ef_load_126 : decode b_Ef_load 126 = .ok (.aload_n 1, 1) := by decide +kernel
theorem d_Ef_load_127 : decode b_Ef_load 127 = .ok (.getfield 15, 3) := by decide +kernel
theorem d_Ef_load_130 : decode b_Ef_load 130 = .ok (.aload_n 0, 1) := by decide +kernel
theorem d_Ef_load_131 : decode b_Ef_load 131 = .ok (.getfield 9, 3) := by decide +kernel
theorem d_Ef_load_134 : decode b_Ef_load 134 = .ok (.iload 7, 2) := by decide +kernel
theorem d_Ef_load_136 : decode b_Ef_load 136 = .ok (.invokevirtual 43, 3) := by decide +kernel
theorem d_Ef_load_139 : decode b_Ef_load 139 = .ok (.aload_n 0, 1) := by decide +kernel
theorem d_Ef_load_140 : decode b_Ef_load 140 = .ok (.getfield 9, 3) := by decide +kernel
theorem d_Ef_load_143 : decode b_Ef_load 143 = .ok (.iload 7, 2) := by decide +kernel
theorem d_Ef_load_145 : decode b_Ef_load 145 = .ok (.invokevirtual 47, 3) := by decide +kernel
theorem d_Ef_load_148 : decode b_Ef_load 148 = .ok (.invokevirtual 118, 3) := by decide +kernel
theorem d_Ef_load_151 : decode b_Ef_load 151 = .ok (.iinc 6 1, 3) := by decide +kernel
theorem d_Ef_load_154 : decode b_Ef_load 154 = .ok (.goto (-87), 3) := by decide +kernel
theorem d_Ef_load_157 : decode b_Ef_load 157 = .ok (.return_, 1) := by decide +kernel
theorem d_Ef_store_0 : decode b_Ef_store 0 = .ok (.aload_n 0, 1) := by decide +kernel
theorem d_Ef_store_1 : decode b_Ef_store 1 = .ok (.getfield 9, 3) := by decide +kernel
theorem d_Ef_store_4 : decode b_Ef_store 4 = .ok (.aload_n 1, 1) := by decide +kernel
theorem d_Ef_store_5 : decode b_Ef_store 5 = .ok (.getfield 15, 3) := by decide +kernel
theorem d_Ef_store_8 : decode b_Ef_store 8 = .ok (.invokevirtual 84, 3) := by decide +kernel
theorem d_Ef_store_11 : decode b_Ef_store 11 = .ok (.iconst 2, 1) := by decide +kernel
theorem d_Ef_store_12 : decode b_Ef_store 12 = .ok (.if_icmp .eq 4, 3) := by decide +kernel
theorem d_Ef_store_15 : decode b_Ef_store 15 = .ok (.return_, 1) := by decide +kernel
theorem d_Ef_store_16 : decode b_Ef_store 16 = .ok (.aload_n 0, 1) := by decide +kernel
theorem d_Ef_store_17 : decode b_Ef_store 17 = .ok (.getfield 9, 3) := by decide +kernel
theorem d_Ef_store_20 : decode b_Ef_store 20 = .ok (.aload_n 1, 1) := by decide +kernel
theorem d_Ef_store_21 : decode b_Ef_store 21 = .ok (.getfield 15, 3) := by decide +kernel
theorem d_Ef_store_24 : decode b_Ef_store 24 = .ok (.invokevirtual 43, 3) := by decide +kernel
theorem d_Ef_store_27 : decode b_Ef_store 27 = .ok (.aload_n 1, 1) := by decide +kernel
theorem d_Ef_store_28 : decode b_Ef_store 28 = .ok (.getfield 24, 3) := by decide +kernel
theorem d_Ef_store_31 : decode b_Ef_store 31 = .ok (.i2l, 1) := by decide +kernel
theorem d_Ef_store_32 : decode b_Ef_store 32 = .ok (.ladd, 1) := by decide +kernel
theorem d_Ef_store_33 : decode b_Ef_store 33 = .ok (.lstore_n 2, 1) := by decide +kernel
theorem d_Ef_store_34 : decode b_Ef_store 34 = .ok (.aload_n 0, 1) := by decide +kernel
theorem d_Ef_store_35 : decode b_Ef_store 35 = .ok (.getfield 9, 3) := by decide +kernel
theorem d_Ef_store_38 : decode b_Ef_store 38 = .ok (.aload_n 1, 1) := by decide +kernel
theorem d_Ef_store_39 : decode b_Ef_store 39 = .ok (.getfield 15, 3) := by decide +kernel
theorem d_Ef_store_42 : decode b_Ef_store 42 = .ok (.invokevirtual 47, 3) := by decide +kernel
theorem d_Ef_store_45 : decode b_Ef_store 45 = .ok (.aload_n 1, 1) := by decide +kernel
theorem d_Ef_store_46 : decode b_Ef_store 46 = .ok (.getfield 24, 3) := by decide +kernel
theorem d_Ef_store_49 : decode b_Ef_store 49 = .ok (.i2l, 1) := by decide +kernel
theorem d_Ef_store_50 : decode b_Ef_store 50 = .ok (.ladd, 1) := by decide +kernel
theorem d_Ef_store_51 : decode b_Ef_store 51 = .ok (.lstore 4, 2) := by decide +kernel
theorem d_Ef_store_53 : decode b_Ef_store 53 = .ok (.iconst 0, 1) := by decide +kernel
theorem d_Ef_store_54 : decode b_Ef_store 54 = .ok (.istore 6, 2) := by decide +kernel
theorem d_Ef_store_56 : decode b_Ef_store 56 = .ok (.iload 6, 2) := by decide +kernel
theorem d_Ef_store_58 : decode b_Ef_store 58 = .ok (.bipush 6, 2) := by decide +kernel
theorem d_Ef_store_60 : decode b_Ef_store 60 = .ok (.if_icmp .ge 107, 3) := by decide +kernel
theorem d_Ef_store_63 : decode b_Ef_store 63 = .ok (.bipush 6, 2) := by decide +kernel
theorem d_Ef_store_65 : decode b_Ef_store 65 = .ok (.iload 6, 2) := by decide +kernel
theorem d_Ef_store_67 : decode b_Ef_store 67 = .ok (.iadd, 1) := by decide +kernel
theorem d_Ef_store_68 : decode b_Ef_store 68 = .ok (.istore 7, 2) := by decide +kernel
theorem d_Ef_store_70 : decode b_Ef_store 70 = .ok (.iload 6, 2) := by decide +kernel
theorem d_Ef_store_72 : decode b_Ef_store 72 = .ok (.i2l, 1) := by decide +kernel
theorem d_Ef_store_73 : decode b_Ef_store 73 = .ok (.lload_n 2, 1) := by decide +kernel
theorem d_Ef_store_74 : decode b_Ef_store 74 = .ok (.lcmp, 1) := by decide +kernel
theorem d_Ef_store_75 : decode b_Ef_store 75 = .ok (.ifCond .ne 26, 3) := by decide +kernel
theorem d_Ef_store_78 : decode b_Ef_store 78 = .ok (.lload_n 2, 1) := by decide +kernel
theorem d_Ef_store_79 : decode b_Ef_store 79 = .ok (.lload 4, 2) := by decide +kernel
theorem d_Ef_store_81 : decode b_Ef_store 81 = .ok (.lcmp, 1) := by decide +kernel
theorem d_Ef_store_82 : decode b_Ef_store 82 = .ok (.ifCond .ne 19, 3) := by decide +kernel
theorem d_Ef_store_85 : decode b_Ef_store 85 = .ok (.aload_n 0, 1) := by decide +kernel
theorem d_Ef_store_86 : decode b_Ef_store 86 = .ok (.getfield 9, 3) := by decide +kernel
theorem d_Ef_store_89 : decode b_Ef_store 89 = .ok (.iload 7, 2) := by decide +kernel
theorem d_Ef_store_91 : decode b_Ef_store 91 = .ok (.aload_n 1, 1) := by decide +kernel
theorem d_Ef_store_92 : decode b_Ef_store 92 = .ok (.getfield 33, 3) := by decide +kernel
theorem d_Ef_store_95 : decode b_Ef_store 95 = .ok (.invokevirtual 36, 3) := by decide +kernel
theorem d_Ef_store_98 : decode b_Ef_store 98 = .ok (.goto 63, 3) := by decide +kernel
theorem d_Ef_store_101 : decode b_Ef_store 101 = .ok (.iload 6, 2) := by decide +kernel
theorem d_Ef_store_103 : decode b_Ef_store 103 = .ok (.i2l, 1) := by decide +kernel
theorem d_Ef_store_104 : decode b_Ef_store 104 = .ok (.lload_n 2, 1) := by decide +kernel
theorem d_Ef_store_105 : decode b_Ef_store 105 = .ok (.lcmp, 1) := by decide +kernel
theorem d_Ef_store_106 : decode b_Ef_store 106 = .ok (.ifCond .lt 55, 3) := by decide +kernel
theorem d_Ef_store_109 : decode b_Ef_store 109 = .ok (.iload 6, 2) := by decide +kernel
theorem d_Ef_store_111 : decode b_Ef_store 111 = .ok (.i2l, 1) := by decide +kernel
theorem d_Ef_store_112 : decode b_Ef_store 112 = .ok (.lload 4, 2) := by decide +kernel
theorem d_Ef_store_114 : decode b_Ef_store 114 = .ok (.lcmp, 1) := by decide +kernel
theorem d_Ef_store_115 : decode b_Ef_store 115 = .ok (.ifCond .gt 46, 3) := by decide +kernel
theorem d_Ef_store_118 : decode b_Ef_store 118 = .ok (.aload_n 0, 1) := by decide +kernel
theorem d_Ef_store_119 : decode b_Ef_store 119 = .ok (.getfield 9, 3) := by decide +kernel
theorem d_Ef_store_122 : decode b_Ef_store 122 = .ok (.iload 7, 2) := by decide +kernel
theorem d_Ef_store_124 : decode b_Ef_store 124 = .ok (.invokevirtual 121, 3) := by decide +kernel
theorem d_Ef_store_127 : decode b_Ef_store 127 = .ok (.ifCond .eq 34, 3) := by decide +kernel
theorem d_Ef_store_130 : decode b_Ef_store 130 = .ok (.aload_n 0, 1) := by decide +kernel
theorem d_Ef_store_131 : decode b_Ef_store 131 = .ok (.getfield 9, 3) := by decide +kernel
theorem d_Ef_store_134 : decode b_Ef_store 134 = .ok (.iload 7, 2) := by decide +kernel
theorem d_Ef_store_136 : decode b_Ef_store 136 = .ok (.aload_n 0, 1) := by decide +kernel
theorem d_Ef_store_137 : decode b_Ef_store 137 = .ok (.getfield 9, 3) := by decide +kernel
theorem d_Ef_store_140 : decode b_Ef_store 140 = .ok (.aload_n 1, 1) := by decide +kernel
theorem d_Ef_store_141 : decode b_Ef_store 141 = .ok (.getfield 33, 3) := by decide +kernel
theorem d_Ef_store_144 : decode b_Ef_store 144 = .ok (.invokevirtual 43, 3) := by decide +kernel
theorem d_Ef_store_147 : decode b_Ef_store 147 = .ok (.aload_n 0, 1) := by decide +kernel
theorem d_Ef_store_148 : decode b_Ef_store 148 = .ok (.getfield 9, 3) := by decide +kernel
theorem d_Ef_store_151 : decode b_Ef_store 151 = .ok (.aload_n 1, 1) := by decide +kernel
theorem d_Ef_store_152 : decode b_Ef_store 152 = .ok (.getfield 33, 3) := by decide +kernel
theorem d_Ef_store_155 : decode b_Ef_store 155 = .ok (.invokevirtual 47, 3) := by decide +kernel
theorem d_Ef_store_158 : decode b_Ef_store 158 = .ok (.invokevirtual 118, 3) := by decide +kernel
theorem d_Ef_store_161 : decode b_Ef_store 161 = .ok (.iinc 6 1, 3) := by decide +kernel
theorem d_Ef_store_164 : decode b_Ef_store 164 = .ok (.goto (-108), 3) := by decide +kernel
theorem d_Ef_store_167 : decode b_Ef_store 167 = .ok (.return_, 1) := by decide +kernel
theorem d_Ef_call_0 : decode b_Ef_call 0 = .ok (.iload_n 1, 1) := by decide +kernel
theorem d_Ef_call_1 : decode b_Ef_call 1 = .ok (.ifCond .ne 18, 3) := by decide +kernel
theorem d_Ef_call_4 : decode b_Ef_call 4 = .ok (.aload_n 0, 1) := by decide +kernel
theorem d_Ef_call_5 : decode b_Ef_call 5 = .ok (.getfield 9, 3) := by decide +kernel
theorem d_Ef_call_8 : decode b_Ef_call 8 = .ok (.iconst 0, 1) := by decide +kernel
theorem d_Ef_call_9 : decode b_Ef_call 9 = .ok (.lconst 0, 1) := by decide +kernel
theorem d_Ef_call_10 : decode b_Ef_call 10 = .ok (.ldc2_w 125, 3) := by decide +kernel
theorem d_Ef_call_13 : decode b_Ef_call 13 = .ok (.invokevirtual 27, 3) := by decide +kernel
theorem d_Ef_call_16 : decode b_Ef_call 16 = .ok (.goto 68, 3) := by decide +kernel
theorem d_Ef_call_19 : decode b_Ef_call 19 = .ok (.iload_n 1, 1) := by decide +kernel
theorem d_Ef_call_20 : decode b_Ef_call 20 = .ok (.iconst 1, 1) := by decide +kernel
theorem d_Ef_call_21 : decode b_Ef_call 21 = .ok (.if_icmp .ne 17, 3) := by decide +kernel
theorem d_Ef_call_24 : decode b_Ef_call 24 = .ok (.aload_n 0, 1) := by decide +kernel
theorem d_Ef_call_25 : decode b_Ef_call 25 = .ok (.getfield 9, 3) := by decide +kernel
theorem d_Ef_call_28 : decode b_Ef_call 28 = .ok (.iconst 0, 1) := by decide +kernel
theorem d_Ef_call_29 : decode b_Ef_call 29 = .ok (.iconst 4, 1) := by decide +kernel
theorem d_Ef_call_30 : decode b_Ef_call 30 = .ok (.lconst 0, 1) := by decide +kernel
theorem d_Ef_call_31 : decode b_Ef_call 31 = .ok (.lconst 0, 1) := by decide +kernel
theorem d_Ef_call_32 : decode b_Ef_call 32 = .ok (.invokevirtual 88, 3) := by decide +kernel
theorem d_Ef_call_35 : decode b_Ef_call 35 = .ok (.goto 49, 3) := by decide +kernel
theorem d_Ef_call_38 : decode b_Ef_call 38 = .ok (.aload_n 0, 1) := by decide +kernel
theorem d_Ef_call_39 : decode b_Ef_call 39 = .ok (.getfield 9, 3) := by decide +kernel
theorem d_Ef_call_42 : decode b_Ef_call 42 = .ok (.iconst 0, 1) := by decide +kernel
theorem d_Ef_call_43 : decode b_Ef_call 43 = .ok (.aload_n 0, 1) := by decide +kernel
theorem d_Ef_call_44 : decode b_Ef_call 44 = .ok (.getfield 9, 3) := by decide +kernel
theorem d_Ef_call_47 : decode b_Ef_call 47 = .ok (.iconst 1, 1) := by decide +kernel
theorem d_Ef_call_48 : decode b_Ef_call 48 = .ok (.invokevirtual 43, 3) := by decide +kernel
theorem d_Ef_call_51 : decode b_Ef_call 51 = .ok (.aload_n 0, 1) := by decide +kernel
theorem d_Ef_call_52 : decode b_Ef_call 52 = .ok (.getfield 9, 3) := by decide +kernel
theorem d_Ef_call_55 : decode b_Ef_call 55 = .ok (.iconst 2, 1) := by decide +kernel
theorem d_Ef_call_56 : decode b_Ef_call 56 = .ok (.invokevirtual 43, 3) := by decide +kernel
theorem d_Ef_call_59 : decode b_Ef_call 59 = .ok (.invokestatic 127, 3) := by decide +kernel
theorem d_Ef_call_62 : decode b_Ef_call 62 = .ok (.aload_n 0, 1) := by decide +kernel
theorem d_Ef_call_63 : decode b_Ef_call 63 = .ok (.getfield 9, 3) := by decide +kernel
theorem d_Ef_call_66 : decode b_Ef_call 66 = .ok (.iconst 1, 1) := by decide +kernel
theorem d_Ef_call_67 : decode b_Ef_call 67 = .ok (.invokevirtual 47, 3) := by decide +kernel
theorem d_Ef_call_70 : decode b_Ef_call 70 = .ok (.aload_n 0, 1) := by decide +kernel
theorem d_Ef_call_71 : decode b_Ef_call 71 = .ok (.getfield 9, 3) := by decide +kernel
theorem d_Ef_call_74 : decode b_Ef_call 74 = .ok (.iconst 2, 1) := by decide +kernel
theorem d_Ef_call_75 : decode b_Ef_call 75 = .ok (.invokevirtual 47, 3) := by decide +kernel
theorem d_Ef_call_78 : decode b_Ef_call 78 = .ok (.invokestatic 127, 3) := by decide +kernel
theorem d_Ef_call_81 : decode b_Ef_call 81 = .ok (.invokevirtual 27, 3) := by decide +kernel
theorem d_Ef_call_84 : decode b_Ef_call 84 = .ok (.aload_n 0, 1) := by decide +kernel
theorem d_Ef_call_85 : decode b_Ef_call 85 = .ok (.getfield 9, 3) := by decide +kernel
theorem d_Ef_call_88 : decode b_Ef_call 88 = .ok (.iconst 1, 1) := by decide +kernel
theorem d_Ef_call_89 : decode b_Ef_call 89 = .ok (.invokevirtual 130, 3) := by decide +kernel
theorem d_Ef_call_92 : decode b_Ef_call 92 = .ok (.aload_n 0, 1) := by decide +kernel
theorem d_Ef_call_93 : decode b_Ef_call 93 = .ok (.getfield 9, 3) := by decide +kernel
theorem d_Ef_call_96 : decode b_Ef_call 96 = .ok (.iconst 2, 1) := by decide +kernel
theorem d_Ef_call_97 : decode b_Ef_call 97 = .ok (.invokevirtual 130, 3) := by decide +kernel
theorem d_Ef_call_100 : decode b_Ef_call 100 = .ok (.aload_n 0, 1) := by decide +kernel
theorem d_Ef_call_101 : decode b_Ef_call 101 = .ok (.getfield 9, 3) := by decide +kernel
theorem d_Ef_call_104 : decode b_Ef_call 104 = .ok (.iconst 3, 1) := by decide +kernel
theorem d_Ef_call_105 : decode b_Ef_call 105 = .ok (.invokevirtual 130, 3) := by decide +kernel
theorem d_Ef_call_108 : decode b_Ef_call 108 = .ok (.return_, 1) := by decide +kernel
theorem d_Fk_leadsToTarget_0 : decode b_Fk_leadsToTarget 0 = .ok (.aload_n 0, 1) := by decide +kernel
theorem d_Fk_leadsToTarget_1 : decode b_Fk_leadsToTarget 1 = .ok (.getfield 9, 3) := by decide +kernel
theorem d_Fk_leadsToTarget_4 : decode b_Fk_leadsToTarget 4 = .ok (.tableswitch 136 10 12 #[28, 76, 99], 28) := by decide +kernel
theorem d_Fk_leadsToTarget_32 : decode b_Fk_leadsToTarget 32 = .ok (.aload_n 0, 1) := by decide +kernel
theorem d_Fk_leadsToTarget_33 : decode b_Fk_leadsToTarget 33 = .ok (.aload_n 1, 1) := by decide +kernel
theorem d_Fk_leadsToTarget_34 : decode b_Fk_leadsToTarget 34 = .ok (.invokestatic 15, 3) := by decide +kernel
theorem d_Fk_leadsToTarget_37 : decode b_Fk_leadsToTarget 37 = .ok (.ifCond .ne 37, 3) := by decide +kernel
theorem d_Fk_leadsToTarget_40 : decode b_Fk_leadsToTarget 40 = .ok (.aload_n 1, 1) := by decide +kernel
theorem d_Fk_leadsToTarget_41 : decode b_Fk_leadsToTarget 41 = .ok (.aload_n 0, 1) := by decide +kernel
theorem d_Fk_leadsToTarget_42 : decode b_Fk_leadsToTarget 42 = .ok (.getfield 21, 3) := by decide +kernel
theorem d_Fk_leadsToTarget_45 : decode b_Fk_leadsToTarget 45 = .ok (.invokevirtual 24, 3) := by decide +kernel
theorem d_Fk_leadsToTarget_48 : decode b_Fk_leadsToTarget 48 = .ok (.aload_n 0, 1) := by decide +kernel
theorem d_Fk_leadsToTarget_49 : decode b_Fk_leadsToTarget 49 = .ok (.getfield 30, 3) := by decide +kernel
theorem d_Fk_leadsToTarget_52 : decode b_Fk_leadsToTarget 52 = .ok (.i2l, 1) := by decide +kernel
theorem d_Fk_leadsToTarget_53 : decode b_Fk_leadsToTarget 53 = .ok (.lcmp, 1) := by decide +kernel
theorem d_Fk_leadsToTarget_54 : decode b_Fk_leadsToTarget 54 = .ok (.ifCond .gt 24, 3) := by decide +kernel
theorem d_Fk_leadsToTarget_57 : decode b_Fk_leadsToTarget 57 = .ok (.aload_n 0, 1) := by decide +kernel
theorem d_Fk_leadsToTarget_58 : decode b_Fk_leadsToTarget 58 = .ok (.getfield 30, 3) := by decide +kernel
theorem d_Fk_leadsToTarget_61 : decode b_Fk_leadsToTarget 61 = .ok (.i2l, 1) := by decide +kernel
theorem d_Fk_leadsToTarget_62 : decode b_Fk_leadsToTarget 62 = .ok (.aload_n 1, 1) := by decide +kernel
theorem d_Fk_leadsToTarget_63 : decode b_Fk_leadsToTarget 63 = .ok (.aload_n 0, 1) := by decide +kernel
theorem d_Fk_leadsToTarget_64 : decode b_Fk_leadsToTarget 64 = .ok (.getfield 21, 3) := by decide +kernel
theorem d_Fk_leadsToTarget_67 : decode b_Fk_leadsToTarget 67 = .ok (.invokevirtual 33, 3) := by decide +kernel
theorem d_Fk_leadsToTarget_70 : decode b_Fk_leadsToTarget 70 = .ok (.lcmp, 1) := by decide +kernel
theorem d_Fk_leadsToTarget_71 : decode b_Fk_leadsToTarget 71 = .ok (.ifCond .gt 7, 3) := by decide +kernel
theorem d_Fk_leadsToTarget_74 : decode b_Fk_leadsToTarget 74 = .ok (.iconst 1, 1) := by decide +kernel
theorem d_Fk_leadsToTarget_75 : decode b_Fk_leadsToTarget 75 = .ok (.goto 4, 3) := by decide +kernel
theorem d_Fk_leadsToTarget_78 : decode b_Fk_leadsToTarget 78 = .ok (.iconst 0, 1) := by decide +kernel
theorem d_Fk_leadsToTarget_79 : decode b_Fk_leadsToTarget 79 = .ok (.ireturn, 1) := by decide +kernel
theorem d_Fk_leadsToTarget_80 : decode b_Fk_leadsToTarget 80 = .ok (.aload_n 1, 1) := by decide +kernel
theorem d_Fk_leadsToTarget_81 : decode b_Fk_leadsToTarget 81 = .ok (.aload_n 0, 1) := by decide +kernel
theorem d_Fk_leadsToTarget_82 : decode b_Fk_leadsToTarget 82 = .ok (.getfield 21, 3) := by decide +kernel
theorem d_Fk_leadsToTarget_85 : decode b_Fk_leadsToTarget 85 = .ok (.invokevirtual 33, 3) := by decide +kernel
theorem d_Fk_leadsToTarget_88 : decode b_Fk_leadsToTarget 88 = .ok (.aload_n 0, 1) := by decide +kernel
theorem d_Fk_leadsToTarget_89 : decode b_Fk_leadsToTarget 89 = .ok (.getfield 30, 3) := by decide +kernel
theorem d_Fk_leadsToTarget_92 : decode b_Fk_leadsToTarget 92 = .ok (.i2l, 1) := by decide +kernel
theorem d_Fk_leadsToTarget_93 : decode b_Fk_leadsToTarget 93 = .ok (.lcmp, 1) := by decide +kernel
theorem d_Fk_leadsToTarget_94 : decode b_Fk_leadsToTarget 94 = .ok (.ifCond .le 7, 3) := by decide +kernel
theorem d_Fk_leadsToTarget_97 : decode b_Fk_leadsToTarget 97 = .ok (.iconst 1, 1) := by decide +kernel
theorem d_Fk_leadsToTarget_98 : decode b_Fk_leadsToTarget 98 = .ok (.goto 4, 3) := by decide +kernel
theorem d_Fk_leadsToTarget_101 : decode b_Fk_leadsToTarget 101 = .ok (.iconst 0, 1) := by decide +kernel
theorem d_Fk_leadsToTarget_102 : decode b_Fk_leadsToTarget 102 = .ok (.ireturn, 1) := by decide +kernel
theorem d_Fk_leadsToTarget_103 : decode b_Fk_leadsToTarget 103 = .ok (.aload_n 0, 1) := by decide +kernel
theorem d_Fk_leadsToTarget_104 : decode b_Fk_leadsToTarget 104 = .ok (.getfield 21, 3) := by decide +kernel
theorem d_Fk_leadsToTarget_107 : decode b_Fk_leadsToTarget 107 = .ok (.aload_n 0, 1) := by decide +kernel
theorem d_Fk_leadsToTarget_108 : decode b_Fk_leadsToTarget 108 = .ok (.getfield 36, 3) := by decide +kernel
theorem d_Fk_leadsToTarget_111 : decode b_Fk_leadsToTarget 111 = .ok (.if_icmp .eq 27, 3) := by decide +kernel
theorem d_Fk_leadsToTarget_114 : decode b_Fk_leadsToTarget 114 = .ok (.aload_n 1, 1) := by decide +kernel
theorem d_Fk_leadsToTarget_115 : decode b_Fk_leadsToTarget 115 = .ok (.aload_n 0, 1) := by decide +kernel
theorem d_Fk_leadsToTarget_116 : decode b_Fk_leadsToTarget 116 = .ok (.getfield 21, 3) := by decide +kernel
theorem d_Fk_leadsToTarget_119 : decode b_Fk_leadsToTarget 119 = .ok (.invokevirtual 24, 3) := by decide +kernel
theorem d_Fk_leadsToTarget_122 : decode b_Fk_leadsToTarget 122 = .ok (.aload_n 1, 1) := by decide +kernel
theorem d_Fk_leadsToTarget_123 : decode b_Fk_leadsToTarget 123 = .ok (.aload_n 0, 1) := by decide +kernel
theorem d_Fk_leadsToTarget_124 : decode b_Fk_leadsToTarget 124 = .ok (.getfield 36, 3) := by decide +kernel
theorem d_Fk_leadsToTarget_127 : decode b_Fk_leadsToTarget 127 = .ok (.invokevirtual 33, 3) := by decide +kernel
theorem d_Fk_leadsToTarget_130 : decode b_Fk_leadsToTarget 130 = .ok (.lcmp, 1) := by decide +kernel
theorem d_Fk_leadsToTarget_131 : decode b_Fk_leadsToTarget 131 = .ok (.ifCond .ge 7, 3) := by decide +kernel
theorem d_Fk_leadsToTarget_134 : decode b_Fk_leadsToTarget 134 = .ok (.iconst 1, 1) := by decide +kernel
theorem d_Fk_leadsToTarget_135 : decode b_Fk_leadsToTarget 135 = .ok (.goto 4, 3) := by decide +kernel
theorem d_Fk_leadsToTarget_138 : decode b_Fk_leadsToTarget 138 = .ok (.iconst 0, 1) := by decide +kernel
theorem d_Fk_leadsToTarget_139 : decode b_Fk_leadsToTarget 139 = .ok (.ireturn, 1) := by decide +kernel
theorem d_Fk_leadsToTarget_140 : decode b_Fk_leadsToTarget 140 = .ok (.iconst 1, 1) := by decide +kernel
theorem d_Fk_leadsToTarget_141 : decode b_Fk_leadsToTarget 141 = .ok (.ireturn, 1) := by decide +kernel
theorem d_Fk_leadsOn_0 : decode b_Fk_leadsOn 0 = .ok (.aload_n 0, 1) := by decide +kernel
theorem d_Fk_leadsOn_1 : decode b_Fk_leadsOn 1 = .ok (.getfield 9, 3) := by decide +kernel
theorem d_Fk_leadsOn_4 : decode b_Fk_leadsOn 4 = .ok (.tableswitch 136 10 12 #[28, 76, 99], 28) := by decide +kernel
theorem d_Fk_leadsOn_32 : decode b_Fk_leadsOn 32 = .ok (.aload_n 0, 1) := by decide +kernel
theorem d_Fk_leadsOn_33 : decode b_Fk_leadsOn 33 = .ok (.aload_n 1, 1) := by decide +kernel
theorem d_Fk_leadsOn_34 : decode b_Fk_leadsOn 34 = .ok (.invokestatic 15, 3) := by decide +kernel
theorem d_Fk_leadsOn_37 : decode b_Fk_leadsOn 37 = .ok (.ifCond .ne 37, 3) := by decide +kernel
theorem d_Fk_leadsOn_40 : decode b_Fk_leadsOn 40 = .ok (.aload_n 1, 1) := by decide +kernel
theorem d_Fk_leadsOn_41 : decode b_Fk_leadsOn 41 = .ok (.aload_n 0, 1) := by decide +kernel
theorem d_Fk_leadsOn_42 : decode b_Fk_leadsOn 42 = .ok (.getfield 21, 3) := by decide +kernel
theorem d_Fk_leadsOn_45 : decode b_Fk_leadsOn 45 = .ok (.invokevirtual 24, 3) := by decide +kernel
theorem d_Fk_leadsOn_48 : decode b_Fk_leadsOn 48 = .ok (.aload_n 0, 1) := by decide +kernel
theorem d_Fk_leadsOn_49 : decode b_Fk_leadsOn 49 = .ok (.getfield 30, 3) := by decide +kernel
theorem d_Fk_leadsOn_52 : decode b_Fk_leadsOn 52 = .ok (.i2l, 1) := by decide +kernel
theorem d_Fk_leadsOn_53 : decode b_Fk_leadsOn 53 = .ok (.lcmp, 1) := by decide +kernel
theorem d_Fk_leadsOn_54 : decode b_Fk_leadsOn 54 = .ok (.ifCond .ne 20, 3) := by decide +kernel
theorem d_Fk_leadsOn_57 : decode b_Fk_leadsOn 57 = .ok (.aload_n 1, 1) := by decide +kernel
theorem d_Fk_leadsOn_58 : decode b_Fk_leadsOn 58 = .ok (.aload_n 0, 1) := by decide +kernel
theorem d_Fk_leadsOn_59 : decode b_Fk_leadsOn 59 = .ok (.getfield 21, 3) := by decide +kernel
theorem d_Fk_leadsOn_62 : decode b_Fk_leadsOn 62 = .ok (.invokevirtual 33, 3) := by decide +kernel
theorem d_Fk_leadsOn_65 : decode b_Fk_leadsOn 65 = .ok (.aload_n 0, 1) := by decide +kernel
theorem d_Fk_leadsOn_66 : decode b_Fk_leadsOn 66 = .ok (.getfield 30, 3) := by decide +kernel
theorem d_Fk_leadsOn_69 : decode b_Fk_leadsOn 69 = .ok (.i2l, 1) := by decide +kernel
theorem d_Fk_leadsOn_70 : decode b_Fk_leadsOn 70 = .ok (.lcmp, 1) := by decide +kernel
theorem d_Fk_leadsOn_71 : decode b_Fk_leadsOn 71 = .ok (.ifCond .eq 7, 3) := by decide +kernel
theorem d_Fk_leadsOn_74 : decode b_Fk_leadsOn 74 = .ok (.iconst 1, 1) := by decide +kernel
theorem d_Fk_leadsOn_75 : decode b_Fk_leadsOn 75 = .ok (.goto 4, 3) := by decide +kernel
theorem d_Fk_leadsOn_78 : decode b_Fk_leadsOn 78 = .ok (.iconst 0, 1) := by decide +kernel
theorem d_Fk_leadsOn_79 : decode b_Fk_leadsOn 79 = .ok (.ireturn, 1) := by decide +kernel
theorem d_Fk_leadsOn_80 : decode b_Fk_leadsOn 80 = .ok (.aload_n 1, 1) := by decide +kernel
theorem d_Fk_leadsOn_81 : decode b_Fk_leadsOn 81 = .ok (.aload_n 0, 1) := by decide +kernel
theorem d_Fk_leadsOn_82 : decode b_Fk_leadsOn 82 = .ok (.getfield 21, 3) := by decide +kernel
theorem d_Fk_leadsOn_85 : decode b_Fk_leadsOn 85 = .ok (.invokevirtual 24, 3) := by decide +kernel
theorem d_Fk_leadsOn_88 : decode b_Fk_leadsOn 88 = .ok (.aload_n 0, 1) := by decide +kernel
theorem d_Fk_leadsOn_89 : decode b_Fk_leadsOn 89 = .ok (.getfield 30, 3) := by decide +kernel
theorem d_Fk_leadsOn_92 : decode b_Fk_leadsOn 92 = .ok (.i2l, 1) := by decide +kernel
theorem d_Fk_leadsOn_93 : decode b_Fk_leadsOn 93 = .ok (.lcmp, 1) := by decide +kernel
theorem d_Fk_leadsOn_94 : decode b_Fk_leadsOn 94 = .ok (.ifCond .gt 7, 3) := by decide +kernel
theorem d_Fk_leadsOn_97 : decode b_Fk_leadsOn 97 = .ok (.iconst 1, 1) := by decide +kernel
theorem d_Fk_leadsOn_98 : decode b_Fk_leadsOn 98 = .ok (.goto 4, 3) := by decide +kernel
theorem d_Fk_leadsOn_101 : decode b_Fk_leadsOn 101 = .ok (.iconst 0, 1) := by decide +kernel
theorem d_Fk_leadsOn_102 : decode b_Fk_leadsOn 102 = .ok (.ireturn, 1) := by decide +kernel
theorem d_Fk_leadsOn_103 : decode b_Fk_leadsOn 103 = .ok (.aload_n 0, 1) := by decide +kernel
theorem d_Fk_leadsOn_104 : decode b_Fk_leadsOn 104 = .ok (.getfield 21, 3) := by decide +kernel
theorem d_Fk_leadsOn_107 : decode b_Fk_leadsOn 107 = .ok (.aload_n 0, 1) := by decide +kernel
theorem d_Fk_leadsOn_108 : decode b_Fk_leadsOn 108 = .ok (.getfield 36, 3) := by decide +kernel
theorem d_Fk_leadsOn_111 : decode b_Fk_leadsOn 111 = .ok (.if_icmp .eq 23, 3) := by decide +kernel
theorem d_Fk_leadsOn_114 : decode b_Fk_leadsOn 114 = .ok (.aload_n 1, 1) := by decide +kernel
theorem d_Fk_leadsOn_115 : decode b_Fk_leadsOn 115 = .ok (.aload_n 0, 1) := by decide +kernel
theorem d_Fk_leadsOn_116 : decode b_Fk_leadsOn 116 = .ok (.getfield 21, 3) := by decide +kernel
theorem d_Fk_leadsOn_119 : decode b_Fk_leadsOn 119 = .ok (.invokevirtual 33, 3) := by decide +kernel
theorem d_Fk_leadsOn_122 : decode b_Fk_leadsOn 122 = .ok (.aload_n 1, 1) := by decide +kernel
theorem d_Fk_leadsOn_123 : decode b_Fk_leadsOn 123 = .ok (.aload_n 0, 1) := by decide +kernel
theorem d_Fk_leadsOn_124 : decode b_Fk_leadsOn 124 = .ok (.getfield 36, 3) := by decide +kernel
theorem d_Fk_leadsOn_127 : decode b_Fk_leadsOn 127 = .ok (.invokevirtual 24, 3) := by decide +kernel
theorem d_Fk_leadsOn_130 : decode b_Fk_leadsOn 130 = .ok (.lcmp, 1) := by decide +kernel
theorem d_Fk_leadsOn_131 : decode b_Fk_leadsOn 131 = .ok (.ifCond .lt 7, 3) := by decide +kernel
theorem d_Fk_leadsOn_134 : decode b_Fk_leadsOn 134 = .ok (.iconst 1, 1) := by decide +kernel
theorem d_Fk_leadsOn_135 : decode b_Fk_leadsOn 135 = .ok (.goto 4, 3) := by decide +kernel
theorem d_Fk_leadsOn_138 : decode b_Fk_leadsOn 138 = .ok (.iconst 0, 1) := by decide +kernel
theorem d_Fk_leadsOn_139 : decode b_Fk_leadsOn 139 = .ok (.ireturn, 1) := by decide +kernel
theorem d_Fk_leadsOn_140 : decode b_Fk_leadsOn 140 = .ok (.iconst 0, 1) := by decide +kernel
theorem d_Fk_leadsOn_141 : decode b_Fk_leadsOn 141 = .ok (.ireturn, 1) := by decide +kernel
theorem d_Fk_goToTarget_0 : decode b_Fk_goToTarget 0 = .ok (.aload_n 0, 1) := by decide +kernel
theorem d_Fk_goToTarget_1 : decode b_Fk_goToTarget 1 = .ok (.getfield 21, 3) := by decide +kernel
theorem d_Fk_goToTarget_4 : decode b_Fk_goToTarget 4 = .ok (.istore_n 2, 1) := by decide +kernel
theorem d_Fk_goToTarget_5 : decode b_Fk_goToTarget 5 = .ok (.aload_n 0, 1) := by decide +kernel
theorem d_Fk_goToTarget_6 : decode b_Fk_goToTarget 6 = .ok (.getfield 30, 3) := by decide +kernel
theorem d_Fk_goToTarget_9 : decode b_Fk_goToTarget 9 = .ok (.i2l, 1) := by decide +kernel
theorem d_Fk_goToTarget_10 : decode b_Fk_goToTarget 10 = .ok (.lstore_n 3, 1) := by decide +kernel
theorem d_Fk_goToTarget_11 : decode b_Fk_goToTarget 11 = .ok (.aload_n 0, 1) := by decide +kernel
theorem d_Fk_goToTarget_12 : decode b_Fk_goToTarget 12 = .ok (.getfield 9, 3) := by decide +kernel
theorem d_Fk_goToTarget_15 : decode b_Fk_goToTarget 15 = .ok (.bipush 10, 2) := by decide +kernel
theorem d_Fk_goToTarget_17 : decode b_Fk_goToTarget 17 = .ok (.if_icmp .ne 13, 3) := by decide +kernel
theorem d_Fk_goToTarget_20 : decode b_Fk_goToTarget 20 = .ok (.aload_n 1, 1) := by decide +kernel
theorem d_Fk_goToTarget_21 : decode b_Fk_goToTarget 21 = .ok (.iload_n 2, 1) := by decide +kernel
theorem d_Fk_goToTarget_22 : decode b_Fk_goToTarget 22 = .ok (.lload_n 3, 1) := by decide +kernel
theorem d_Fk_goToTarget_23 : decode b_Fk_goToTarget 23 = .ok (.lload_n 3, 1) := by decide +kernel
theorem d_Fk_goToTarget_24 : decode b_Fk_goToTarget 24 = .ok (.invokevirtual 39, 3) := by decide +kernel
theorem d_Fk_goToTarget_27 : decode b_Fk_goToTarget 27 = .ok (.goto 106, 3) := by decide +kernel
theorem d_Fk_goToTarget_30 : decode b_Fk_goToTarget 30 = .ok (.aload_n 0, 1) := by decide +kernel
theorem d_Fk_goToTarget_31 : decode b_Fk_goToTarget 31 = .ok (.getfield 9, 3) := by decide +kernel
theorem d_Fk_goToTarget_34 : decode b_Fk_goToTarget 34 = .ok (.bipush 11, 2) := by decide +kernel
theorem d_Fk_goToTarget_36 : decode b_Fk_goToTarget 36 = .ok (.if_icmp .ne 27, 3) := by decide +kernel
theorem d_Fk_goToTarget_39 : decode b_Fk_goToTarget 39 = .ok (.aload_n 1, 1) := by decide +kernel
theorem d_Fk_goToTarget_40 : decode b_Fk_goToTarget 40 = .ok (.iload_n 2, 1) := by decide +kernel
theorem d_Fk_goToTarget_41 : decode b_Fk_goToTarget 41 = .ok (.aload_n 1, 1) := by decide +kernel
theorem d_Fk_goToTarget_42 : decode b_Fk_goToTarget 42 = .ok (.iload_n 2, 1) := by decide +kernel
theorem d_Fk_goToTarget_43 : decode b_Fk_goToTarget 43 = .ok (.invokevirtual 24, 3) := by decide +kernel
theorem d_Fk_goToTarget_46 : decode b_Fk_goToTarget 46 = .ok (.lload_n 3, 1) := by decide +kernel
theorem d_Fk_goToTarget_47 : decode b_Fk_goToTarget 47 = .ok (.lconst 1, 1) := by decide +kernel
theorem d_Fk_goToTarget_48 : decode b_Fk_goToTarget 48 = .ok (.ladd, 1) := by decide +kernel
theorem d_Fk_goToTarget_49 : decode b_Fk_goToTarget 49 = .ok (.invokestatic 43, 3) := by decide +kernel
theorem d_Fk_goToTarget_52 : decode b_Fk_goToTarget 52 = .ok (.aload_n 1, 1) := by decide +kernel
theorem d_Fk_goToTarget_53 : decode b_Fk_goToTarget 53 = .ok (.iload_n 2, 1) := by decide +kernel
theorem d_Fk_goToTarget_54 : decode b_Fk_goToTarget 54 = .ok (.invokevirtual 33, 3) := by decide +kernel
theorem d_Fk_goToTarget_57 : decode b_Fk_goToTarget 57 = .ok (.invokevirtual 39, 3) := by decide +kernel
theorem d_Fk_goToTarget_60 : decode b_Fk_goToTarget 60 = .ok (.goto 73, 3) := by decide +kernel
theorem d_Fk_goToTarget_63 : decode b_Fk_goToTarget 63 = .ok (.aload_n 0, 1) := by decide +kernel
theorem d_Fk_goToTarget_64 : decode b_Fk_goToTarget 64 = .ok (.getfield 9, 3) := by decide +kernel
theorem d_Fk_goToTarget_67 : decode b_Fk_goToTarget 67 = .ok (.bipush 12, 2) := by decide +kernel
theorem d_Fk_goToTarget_69 : decode b_Fk_goToTarget 69 = .ok (.if_icmp .ne 64, 3) := by decide +kernel
theorem d_Fk_goToTarget_72 : decode b_Fk_goToTarget 72 = .ok (.aload_n 1, 1) := by decide +kernel
theorem d_Fk_goToTarget_73 : decode b_Fk_goToTarget 73 = .ok (.iload_n 2, 1) := by decide +kernel
theorem d_Fk_goToTarget_74 : decode b_Fk_goToTarget 74 = .ok (.invokevirtual 24, 3) := by decide +kernel
theorem d_Fk_goToTarget_77 : decode b_Fk_goToTarget 77 = .ok (.lstore 5, 2) := by decide +kernel
theorem d_Fk_goToTarget_79 : decode b_Fk_goToTarget 79 = .ok (.aload_n 1, 1) := by decide +kernel
theorem d_Fk_goToTarget_80 : decode b_Fk_goToTarget 80 = .ok (.aload_n 0, 1) := by decide +kernel
theorem d_Fk_goToTarget_81 : decode b_Fk_goToTarget 81 = .ok (.getfield 36, 3) := by decide +kernel
theorem d_Fk_goToTarget_84 : decode b_Fk_goToTarget 84 = .ok (.invokevirtual 33, 3) := by decide +kernel
theorem d_Fk_goToTarget_87 : decode b_Fk_goToTarget 87 = .ok (.lstore 7, 2) := by decide +kernel
theorem d_Fk_goToTarget_89 : decode b_Fk_goToTarget 89 = .ok (.aload_n 1, 1) := by decide +kernel
theorem d_Fk_goToTarget_90 : decode b_Fk_goToTarget 90 = .ok (.iload_n 2, 1) := by decide +kernel
theorem d_Fk_goToTarget_91 : decode b_Fk_goToTarget 91 = .ok (.lload 5, 2) := by decide +kernel
theorem d_Fk_goToTarget_93 : decode b_Fk_goToTarget 93 = .ok (.aload_n 1, 1) := by decide +kernel
theorem d_Fk_goToTarget_94 : decode b_Fk_goToTarget 94 = .ok (.iload_n 2, 1) := by decide +kernel
theorem d_Fk_goToTarget_95 : decode b_Fk_goToTarget 95 = .ok (.invokevirtual 33, 3) := by decide +kernel
theorem d_Fk_goToTarget_98 : decode b_Fk_goToTarget 98 = .ok (.lload 7, 2) := by decide +kernel
theorem d_Fk_goToTarget_100 : decode b_Fk_goToTarget 100 = .ok (.lconst 1, 1) := by decide +kernel
theorem d_Fk_goToTarget_101 : decode b_Fk_goToTarget 101 = .ok (.lsub, 1) := by decide +kernel
theorem d_Fk_goToTarget_102 : decode b_Fk_goToTarget 102 = .ok (.invokestatic 49, 3) := by decide +kernel
theorem d_Fk_goToTarget_105 : decode b_Fk_goToTarget 105 = .ok (.invokevirtual 39, 3) := by decide +kernel
theorem d_Fk_goToTarget_108 : decode b_Fk_goToTarget 108 = .ok (.aload_n 1, 1) := by decide +kernel
theorem d_Fk_goToTarget_109 : decode b_Fk_goToTarget 109 = .ok (.aload_n 0, 1) := by decide +kernel
theorem d_Fk_goToTarget_110 : decode b_Fk_goToTarget 110 = .ok (.getfield 36, 3) := by decide +kernel
theorem d_Fk_goToTarget_113 : decode b_Fk_goToTarget 113 = .ok (.aload_n 1, 1) := by decide +kernel
theorem d_Fk_goToTarget_114 : decode b_Fk_goToTarget 114 = .ok (.aload_n 0, 1) := by decide +kernel
theorem d_Fk_goToTarget_115 : decode b_Fk_goToTarget 115 = .ok (.getfield 36, 3) := by decide +kernel
theorem d_Fk_goToTarget_118 : decode b_Fk_goToTarget 118 = .ok (.invokevirtual 24, 3) := by decide +kernel
theorem d_Fk_goToTarget_121 : decode b_Fk_goToTarget 121 = .ok (.lload 5, 2) := by decide +kernel
theorem d_Fk_goToTarget_123 : decode b_Fk_goToTarget 123 = .ok (.lconst 1, 1) := by decide +kernel
theorem d_Fk_goToTarget_124 : decode b_Fk_goToTarget 124 = .ok (.ladd, 1) := by decide +kernel
theorem d_Fk_goToTarget_125 : decode b_Fk_goToTarget 125 = .ok (.invokestatic 43, 3) := by decide +kernel
theorem d_Fk_goToTarget_128 : decode b_Fk_goToTarget 128 = .ok (.lload 7, 2) := by decide +kernel
theorem d_Fk_goToTarget_130 : decode b_Fk_goToTarget 130 = .ok (.invokevirtual 39, 3) := by decide +kernel
theorem d_Fk_goToTarget_133 : decode b_Fk_goToTarget 133 = .ok (.return_, 1) := by decide +kernel
theorem d_Fk_goOn_0 : decode b_Fk_goOn 0 = .ok (.aload_n 0, 1) := by decide +kernel
theorem d_Fk_goOn_1 : decode b_Fk_goOn 1 = .ok (.getfield 21, 3) := by decide +kernel
theorem d_Fk_goOn_4 : decode b_Fk_goOn 4 = .ok (.istore_n 2, 1) := by decide +kernel
theorem d_Fk_goOn_5 : decode b_Fk_goOn 5 = .ok (.aload_n 0, 1) := by decide +kernel
theorem d_Fk_goOn_6 : decode b_Fk_goOn 6 = .ok (.getfield 30, 3) := by decide +kernel
theorem d_Fk_goOn_9 : decode b_Fk_goOn 9 = .ok (.i2l, 1) := by decide +kernel
theorem d_Fk_goOn_10 : decode b_Fk_goOn 10 = .ok (.lstore_n 3, 1) := by decide +kernel
theorem d_Fk_goOn_11 : decode b_Fk_goOn 11 = .ok (.aload_n 0, 1) := by decide +kernel
theorem d_Fk_goOn_12 : decode b_Fk_goOn 12 = .ok (.getfield 9, 3) := by decide +kernel
theorem d_Fk_goOn_15 : decode b_Fk_goOn 15 = .ok (.bipush 10, 2) := by decide +kernel
theorem d_Fk_goOn_17 : decode b_Fk_goOn 17 = .ok (.if_icmp .ne 22, 3) := by decide +kernel
theorem d_Fk_goOn_20 : decode b_Fk_goOn 20 = .ok (.aload_n 0, 1) := by decide +kernel
theorem d_Fk_goOn_21 : decode b_Fk_goOn 21 = .ok (.aload_n 1, 1) := by decide +kernel
theorem d_Fk_goOn_22 : decode b_Fk_goOn 22 = .ok (.invokestatic 15, 3) := by decide +kernel
theorem d_Fk_goOn_25 : decode b_Fk_goOn 25 = .ok (.ifCond .eq 14, 3) := by decide +kernel
theorem d_Fk_goOn_28 : decode b_Fk_goOn 28 = .ok (.aload_n 1, 1) := by decide +kernel
theorem d_Fk_goOn_29 : decode b_Fk_goOn 29 = .ok (.iload_n 2, 1) := by decide +kernel
theorem d_Fk_goOn_30 : decode b_Fk_goOn 30 = .ok (.iconst 3, 1) := by decide +kernel
theorem d_Fk_goOn_31 : decode b_Fk_goOn 31 = .ok (.lconst 0, 1) := by decide +kernel
theorem d_Fk_goOn_32 : decode b_Fk_goOn 32 = .ok (.lconst 0, 1) := by decide +kernel
theorem d_Fk_goOn_33 : decode b_Fk_goOn 33 = .ok (.invokevirtual 52, 3) := by decide +kernel
theorem d_Fk_goOn_36 : decode b_Fk_goOn 36 = .ok (.goto 167, 3) := by decide +kernel
theorem d_Fk_goOn_39 : decode b_Fk_goOn 39 = .ok (.aload_n 0, 1) := by decide +kernel
theorem d_Fk_goOn_40 : decode b_Fk_goOn 40 = .ok (.getfield 9, 3) := by decide +kernel
theorem d_Fk_goOn_43 : decode b_Fk_goOn 43 = .ok (.bipush 10, 2) := by decide +kernel
theorem d_Fk_goOn_45 : decode b_Fk_goOn 45 = .ok (.if_icmp .ne 53, 3) := by decide +kernel
theorem d_Fk_goOn_48 : decode b_Fk_goOn 48 = .ok (.aload_n 1, 1) := by decide +kernel
theorem d_Fk_goOn_49 : decode b_Fk_goOn 49 = .ok (.iload_n 2, 1) := by decide +kernel
theorem d_Fk_goOn_50 : decode b_Fk_goOn 50 = .ok (.aload_n 1, 1) := by decide +kernel
theorem d_Fk_goOn_51 : decode b_Fk_goOn 51 = .ok (.iload_n 2, 1) := by decide +kernel
theorem d_Fk_goOn_52 : decode b_Fk_goOn 52 = .ok (.invokevirtual 24, 3) := by decide +kernel
theorem d_Fk_goOn_55 : decode b_Fk_goOn 55 = .ok (.lload_n 3, 1) := by decide +kernel
theorem d_Fk_goOn_56 : decode b_Fk_goOn 56 = .ok (.lcmp, 1) := by decide +kernel
theorem d_Fk_goOn_57 : decode b_Fk_goOn 57 = .ok (.ifCond .ne 9, 3) := by decide +kernel
theorem d_Fk_goOn_60 : decode b_Fk_goOn 60 = .ok (.lload_n 3, 1) := by decide +kernel
theorem d_Fk_goOn_61 : decode b_Fk_goOn 61 = .ok (.lconst 1, 1) := by decide +kernel
theorem d_Fk_goOn_62 : decode b_Fk_goOn 62 = .ok (.ladd, 1) := by decide +kernel
theorem d_Fk_goOn_63 : decode b_Fk_goOn 63 = .ok (.goto 8, 3) := by decide +kernel
theorem d_Fk_goOn_66 : decode b_Fk_goOn 66 = .ok (.aload_n 1, 1) := by decide +kernel
theorem d_Fk_goOn_67 : decode b_Fk_goOn 67 = .ok (.iload_n 2, 1) := by decide +kernel
theorem d_Fk_goOn_68 : decode b_Fk_goOn 68 = .ok (.invokevirtual 24, 3) := by decide +kernel
theorem d_Fk_goOn_71 : decode b_Fk_goOn 71 = .ok (.aload_n 1, 1) := by decide +kernel
theorem d_Fk_goOn_72 : decode b_Fk_goOn 72 = .ok (.iload_n 2, 1) := by decide +kernel
theorem d_Fk_goOn_73 : decode b_Fk_goOn 73 = .ok (.invokevirtual 33, 3) := by decide +kernel
theorem d_Fk_goOn_76 : decode b_Fk_goOn 76 = .ok (.lload_n 3, 1) := by decide +kernel
theorem d_Fk_goOn_77 : decode b_Fk_goOn 77 = .ok (.lcmp, 1) := by decide +kernel
theorem d_Fk_goOn_78 : decode b_Fk_goOn 78 = .ok (.ifCond .ne 9, 3) := by decide +kernel
theorem d_Fk_goOn_81 : decode b_Fk_goOn 81 = .ok (.lload_n 3, 1) := by decide +kernel
theorem d_Fk_goOn_82 : decode b_Fk_goOn 82 = .ok (.lconst 1, 1) := by decide +kernel
theorem d_Fk_goOn_83 : decode b_Fk_goOn 83 = .ok (.lsub, 1) := by decide +kernel
theorem d_Fk_goOn_84 : decode b_Fk_goOn 84 = .ok (.goto 8, 3) := by decide +kernel
theorem d_Fk_goOn_87 : decode b_Fk_goOn 87 = .ok (.aload_n 1, 1) := by decide +kernel
theorem d_Fk_goOn_88 : decode b_Fk_goOn 88 = .ok (.iload_n 2, 1) := by decide +kernel
theorem d_Fk_goOn_89 : decode b_Fk_goOn 89 = .ok (.invokevirtual 33, 3) := by decide +kernel
theorem d_Fk_goOn_92 : decode b_Fk_goOn 92 = .ok (.invokevirtual 39, 3) := by decide +kernel
theorem d_Fk_goOn_95 : decode b_Fk_goOn 95 = .ok (.goto 108, 3) := by decide +kernel
theorem d_Fk_goOn_98 : decode b_Fk_goOn 98 = .ok (.aload_n 0, 1) := by decide +kernel
theorem d_Fk_goOn_99 : decode b_Fk_goOn 99 = .ok (.getfield 9, 3) := by decide +kernel
theorem d_Fk_goOn_102 : decode b_Fk_goOn 102 = .ok (.bipush 11, 2) := by decide +kernel
theorem d_Fk_goOn_104 : decode b_Fk_goOn 104 = .ok (.if_icmp .ne 25, 3) := by decide +kernel
theorem d_Fk_goOn_107 : decode b_Fk_goOn 107 = .ok (.aload_n 1, 1) := by decide +kernel
theorem d_Fk_goOn_108 : decode b_Fk_goOn 108 = .ok (.iload_n 2, 1) := by decide +kernel
theorem d_Fk_goOn_109 : decode b_Fk_goOn 109 = .ok (.aload_n 1, 1) := by decide +kernel
theorem d_Fk_goOn_110 : decode b_Fk_goOn 110 = .ok (.iload_n 2, 1) := by decide +kernel
theorem d_Fk_goOn_111 : decode b_Fk_goOn 111 = .ok (.invokevirtual 24, 3) := by decide +kernel
theorem d_Fk_goOn_114 : decode b_Fk_goOn 114 = .ok (.aload_n 1, 1) := by decide +kernel
theorem d_Fk_goOn_115 : decode b_Fk_goOn 115 = .ok (.iload_n 2, 1) := by decide +kernel
theorem d_Fk_goOn_116 : decode b_Fk_goOn 116 = .ok (.invokevirtual 33, 3) := by decide +kernel
theorem d_Fk_goOn_119 : decode b_Fk_goOn 119 = .ok (.lload_n 3, 1) := by decide +kernel
theorem d_Fk_goOn_120 : decode b_Fk_goOn 120 = .ok (.invokestatic 49, 3) := by decide +kernel
theorem d_Fk_goOn_123 : decode b_Fk_goOn 123 = .ok (.invokevirtual 39, 3) := by decide +kernel
theorem d_Fk_goOn_126 : decode b_Fk_goOn 126 = .ok (.goto 77, 3) := by decide +kernel
theorem d_Fk_goOn_129 : decode b_Fk_goOn 129 = .ok (.aload_n 0, 1) := by decide +kernel
theorem d_Fk_goOn_130 : decode b_Fk_goOn 130 = .ok (.getfield 9, 3) := by decide +kernel
theorem d_Fk_goOn_133 : decode b_Fk_goOn 133 = .ok (.bipush 12, 2) := by decide +kernel
theorem d_Fk_goOn_135 : decode b_Fk_goOn 135 = .ok (.if_icmp .ne 68, 3) := by decide +kernel
theorem d_Fk_goOn_138 : decode b_Fk_goOn 138 = .ok (.iload_n 2, 1) := by decide +kernel
theorem d_Fk_goOn_139 : decode b_Fk_goOn 139 = .ok (.aload_n 0, 1) := by decide +kernel
theorem d_Fk_goOn_140 : decode b_Fk_goOn 140 = .ok (.getfield 36, 3) := by decide +kernel
theorem d_Fk_goOn_143 : decode b_Fk_goOn 143 = .ok (.if_icmp .eq 60, 3) := by decide +kernel
theorem d_Fk_goOn_146 : decode b_Fk_goOn 146 = .ok (.aload_n 1, 1) := by decide +kernel
theorem d_Fk_goOn_147 : decode b_Fk_goOn 147 = .ok (.iload_n 2, 1) := by decide +kernel
theorem d_Fk_goOn_148 : decode b_Fk_goOn 148 = .ok (.invokevirtual 33, 3) := by decide +kernel
theorem d_Fk_goOn_151 : decode b_Fk_goOn 151 = .ok (.lstore 5, 2) := by decide +kernel
theorem d_Fk_goOn_153 : decode b_Fk_goOn 153 = .ok (.aload_n 1, 1) := by decide +kernel
theorem d_Fk_goOn_154 : decode b_Fk_goOn 154 = .ok (.aload_n 0, 1) := by decide +kernel
theorem d_Fk_goOn_155 : decode b_Fk_goOn 155 = .ok (.getfield 36, 3) := by decide +kernel
theorem d_Fk_goOn_158 : decode b_Fk_goOn 158 = .ok (.invokevirtual 24, 3) := by decide +kernel
theorem d_Fk_goOn_161 : decode b_Fk_goOn 161 = .ok (.lstore 7, 2) := by decide +kernel
theorem d_Fk_goOn_163 : decode b_Fk_goOn 163 = .ok (.aload_n 1, 1) := by decide +kernel
theorem d_Fk_goOn_164 : decode b_Fk_goOn 164 = .ok (.iload_n 2, 1) := by decide +kernel
theorem d_Fk_goOn_165 : decode b_Fk_goOn 165 = .ok (.aload_n 1, 1) := by decide +kernel
theorem d_Fk_goOn_166 : decode b_Fk_goOn 166 = .ok (.iload_n 2, 1) := by decide +kernel
theorem d_Fk_goOn_167 : decode b_Fk_goOn 167 = .ok (.invokevirtual 24, 3) := by decide +kernel
theorem d_Fk_goOn_170 : decode b_Fk_goOn 170 = .ok (.lload 7, 2) := by decide +kernel
theorem d_Fk_goOn_172 : decode b_Fk_goOn 172 = .ok (.invokestatic 43, 3) := by decide +kernel
theorem d_Fk_goOn_175 : decode b_Fk_goOn 175 = .ok (.lload 5, 2) := by decide +kernel
theorem d_Fk_goOn_177 : decode b_Fk_goOn 177 = .ok (.invokevirtual 39, 3) := by decide +kernel
theorem d_Fk_goOn_180 : decode b_Fk_goOn 180 = .ok (.aload_n 1, 1) := by decide +kernel
theorem d_Fk_goOn_181 : decode b_Fk_goOn 181 = .ok (.aload_n 0, 1) := by decide +kernel
theorem d_Fk_goOn_182 : decode b_Fk_goOn 182 = .ok (.getfield 36, 3) := by decide +kernel
theorem d_Fk_goOn_185 : decode b_Fk_goOn 185 = .ok (.lload 7, 2) := by decide +kernel
theorem d_Fk_goOn_187 : decode b_Fk_goOn 187 = .ok (.aload_n 1, 1) := by decide +kernel
theorem d_Fk_goOn_188 : decode b_Fk_goOn 188 = .ok (.aload_n 0, 1) := by decide +kernel
theorem d_Fk_goOn_189 : decode b_Fk_goOn 189 = .ok (.getfield 36, 3) := by decide +kernel
theorem d_Fk_goOn_192 : decode b_Fk_goOn 192 = .ok (.invokevirtual 33, 3) := by decide +kernel
theorem d_Fk_goOn_195 : decode b_Fk_goOn 195 = .ok (.lload 5, 2) := by decide +kernel
theorem d_Fk_goOn_197 : decode b_Fk_goOn 197 = .ok (.invokestatic 49, 3) := by decide +kernel
theorem d_Fk_goOn_200 : decode b_Fk_goOn 200 = .ok (.invokevirtual 39, 3) := by decide +kernel
theorem d_Fk_goOn_203 : decode b_Fk_goOn 203 = .ok (.return_, 1) := by decide +kernel
theorem d_Fk_isMaybe_0 : decode b_Fk_isMaybe 0 = .ok (.aload_n 1, 1) := by decide +kernel
theorem d_Fk_isMaybe_1 : decode b_Fk_isMaybe 1 = .ok (.aload_n 0, 1) := by decide +kernel
theorem d_Fk_isMaybe_2 : decode b_Fk_isMaybe 2 = .ok (.getfield 21, 3) := by decide +kernel
theorem d_Fk_isMaybe_5 : decode b_Fk_isMaybe 5 = .ok (.invokevirtual 56, 3) := by decide +kernel
theorem d_Fk_isMaybe_8 : decode b_Fk_isMaybe 8 = .ok (.iconst 4, 1) := by decide +kernel
theorem d_Fk_isMaybe_9 : decode b_Fk_isMaybe 9 = .ok (.if_icmp .ne 7, 3) := by decide +kernel
theorem d_Fk_isMaybe_12 : decode b_Fk_isMaybe 12 = .ok (.iconst 1, 1) := by decide +kernel
theorem d_Fk_isMaybe_13 : decode b_Fk_isMaybe 13 = .ok (.goto 4, 3) := by decide +kernel
theorem d_Fk_isMaybe_16 : decode b_Fk_isMaybe 16 = .ok (.iconst 0, 1) := by decide +kernel
theorem d_Fk_isMaybe_17 : decode b_Fk_isMaybe 17 = .ok (.ireturn, 1) := by decide +kernel
theorem d_Gs_init_0 : decode b_Gs_init 0 = .ok (.aload_n 0, 1) := by decide +kernel
theorem d_Gs_init_1 : decode b_Gs_init 1 = .ok (.invokespecial 3, 3) := by decide +kernel
theorem d_Gs_init_4 : decode b_Gs_init 4 = .ok (.aload_n 0, 1) := by decide +kernel
theorem d_Gs_init_5 : decode b_Gs_init 5 = .ok (.bipush 12, 2) := by decide +kernel
theorem d_Gs_init_7 : decode b_Gs_init 7 = .ok (.newarray .int, 2) := by decide +kernel
theorem d_Gs_init_9 : decode b_Gs_init 9 = .ok (.putfield 9, 3) := by decide +kernel
theorem d_Gs_init_12 : decode b_Gs_init 12 = .ok (.aload_n 0, 1) := by decide +kernel
theorem d_Gs_init_13 : decode b_Gs_init 13 = .ok (.bipush 12, 2) := by decide +kernel
theorem d_Gs_init_15 : decode b_Gs_init 15 = .ok (.newarray .long, 2) := by decide +kernel
theorem d_Gs_init_17 : decode b_Gs_init 17 = .ok (.putfield 15, 3) := by decide +kernel
theorem d_Gs_init_20 : decode b_Gs_init 20 = .ok (.aload_n 0, 1) := by decide +kernel
theorem d_Gs_init_21 : decode b_Gs_init 21 = .ok (.bipush 12, 2) := by decide +kernel
theorem d_Gs_init_23 : decode b_Gs_init 23 = .ok (.newarray .long, 2) := by decide +kernel
theorem d_Gs_init_25 : decode b_Gs_init 25 = .ok (.putfield 19, 3) := by decide +kernel
theorem d_Gs_init_28 : decode b_Gs_init 28 = .ok (.return_, 1) := by decide +kernel
theorem d_Gs_begin_0 : decode b_Gs_begin 0 = .ok (.iconst 0, 1) := by decide +kernel
theorem d_Gs_begin_1 : decode b_Gs_begin 1 = .ok (.istore_n 1, 1) := by decide +kernel
theorem d_Gs_begin_2 : decode b_Gs_begin 2 = .ok (.iload_n 1, 1) := by decide +kernel
theorem d_Gs_begin_3 : decode b_Gs_begin 3 = .ok (.bipush 12, 2) := by decide +kernel
theorem d_Gs_begin_5 : decode b_Gs_begin 5 = .ok (.if_icmp .ge 14, 3) := by decide +kernel
theorem d_Gs_begin_8 : decode b_Gs_begin 8 = .ok (.aload_n 0, 1) := by decide +kernel
theorem d_Gs_begin_9 : decode b_Gs_begin 9 = .ok (.iload_n 1, 1) := by decide +kernel
theorem d_Gs_begin_10 : decode b_Gs_begin 10 = .ok (.invokevirtual 22, 3) := by decide +kernel
theorem d_Gs_begin_13 : decode b_Gs_begin 13 = .ok (.iinc 1 1, 3) := by decide +kernel
theorem d_Gs_begin_16 : decode b_Gs_begin 16 = .ok (.goto (-14), 3) := by decide +kernel
theorem d_Gs_begin_19 : decode b_Gs_begin 19 = .ok (.aload_n 0, 1) := by decide +kernel
theorem d_Gs_begin_20 : decode b_Gs_begin 20 = .ok (.iconst 1, 1) := by decide +kernel
theorem d_Gs_begin_21 : decode b_Gs_begin 21 = .ok (.invokevirtual 26, 3) := by decide +kernel
theorem d_Gs_begin_24 : decode b_Gs_begin 24 = .ok (.aload_n 0, 1) := by decide +kernel
theorem d_Gs_begin_25 : decode b_Gs_begin 25 = .ok (.iconst 2, 1) := by decide +kernel
theorem d_Gs_begin_26 : decode b_Gs_begin 26 = .ok (.iconst 2, 1) := by decide +kernel
theorem d_Gs_begin_27 : decode b_Gs_begin 27 = .ok (.lconst 0, 1) := by decide +kernel
theorem d_Gs_begin_28 : decode b_Gs_begin 28 = .ok (.lconst 0, 1) := by decide +kernel
theorem d_Gs_begin_29 : decode b_Gs_begin 29 = .ok (.invokevirtual 29, 3) := by decide +kernel
theorem d_Gs_begin_32 : decode b_Gs_begin 32 = .ok (.return_, 1) := by decide +kernel
theorem d_Gs_become_0 : decode b_Gs_become 0 = .ok (.aload_n 1, 1) := by decide +kernel
theorem d_Gs_become_1 : decode b_Gs_become 1 = .ok (.getfield 9, 3) := by decide +kernel
theorem d_Gs_become_4 : decode b_Gs_become 4 = .ok (.iconst 0, 1) := by decide +kernel
theorem d_Gs_become_5 : decode b_Gs_become 5 = .ok (.aload_n 0, 1) := by decide +kernel
theorem d_Gs_become_6 : decode b_Gs_become 6 = .ok (.getfield 9, 3) := by decide +kernel
theorem d_Gs_become_9 : decode b_Gs_become 9 = .ok (.iconst 0, 1) := by decide +kernel
theorem d_Gs_become_10 : decode b_Gs_become 10 = .ok (.bipush 12, 2) := by decide +kernel
theorem d_Gs_become_12 : decode b_Gs_become 12 = .ok (.invokestatic 33, 3) := by decide +kernel
theorem d_Gs_become_15 : decode b_Gs_become 15 = .ok (.aload_n 1, 1) := by decide +kernel
theorem d_Gs_become_16 : decode b_Gs_become 16 = .ok (.getfield 15, 3) := by decide +kernel
theorem d_Gs_become_19 : decode b_Gs_become 19 = .ok (.iconst 0, 1) := by decide +kernel
theorem d_Gs_become_20 : decode b_Gs_become 20 = .ok (.aload_n 0, 1) := by decide +kernel
theorem d_Gs_become_21 : decode b_Gs_become 21 = .ok (.getfield 15, 3) := by decide +kernel
theorem d_Gs_become_24 : decode b_Gs_become 24 = .ok (.iconst 0, 1) := by decide +kernel
theorem d_Gs_become_25 : decode b_Gs_become 25 = .ok (.bipush 12, 2) := by decide +kernel
theorem d_Gs_become_27 : decode b_Gs_become 27 = .ok (.invokestatic 33, 3) := by decide +kernel
theorem d_Gs_become_30 : decode b_Gs_become 30 = .ok (.aload_n 1, 1) := by decide +kernel
theorem d_Gs_become_31 : decode b_Gs_become 31 = .ok (.getfield 19, 3) := by decide +kernel
theorem d_Gs_become_34 : decode b_Gs_become 34 = .ok (.iconst 0, 1) := by decide +kernel
theorem d_Gs_become_35 : decode b_Gs_become 35 = .ok (.aload_n 0, 1) := by decide +kernel
theorem d_Gs_become_36 : decode b_Gs_become 36 = .ok (.getfield 19, 3) := by decide +kernel
theorem d_Gs_become_39 : decode b_Gs_become 39 = .ok (.iconst 0, 1) := by decide +kernel
theorem d_Gs_become_40 : decode b_Gs_become 40 = .ok (.bipush 12, 2) := by decide +kernel
theorem d_Gs_become_42 : decode b_Gs_become 42 = .ok (.invokestatic 33, 3) := by decide +kernel
theorem d_Gs_become_45 : decode b_Gs_become 45 = .ok (.return_, 1) := by decide +kernel
theorem d_Gs_kind_0 : decode b_Gs_kind 0 = .ok (.aload_n 0, 1) := by decide +kernel
theorem d_Gs_kind_1 : decode b_Gs_kind 1 = .ok (.getfield 9, 3) := by decide +kernel
theorem d_Gs_kind_4 : decode b_Gs_kind 4 = .ok (.iload_n 1, 1) := by decide +kernel
theorem d_Gs_kind_5 : decode b_Gs_kind 5 = .ok (.iaload, 1) := by decide +kernel
theorem d_Gs_kind_6 : decode b_Gs_kind 6 = .ok (.ireturn, 1) := by decide +kernel
theorem d_Gs_lo_0 : decode b_Gs_lo 0 = .ok (.aload_n 0, 1) := by decide +kernel
theorem d_Gs_lo_1 : decode b_Gs_lo 1 = .ok (.getfield 15, 3) := by decide +kernel
theorem d_Gs_lo_4 : decode b_Gs_lo 4 = .ok (.iload_n 1, 1) := by decide +kernel
theorem d_Gs_lo_5 : decode b_Gs_lo 5 = .ok (.laload, 1) := by decide +kernel
theorem d_Gs_lo_6 : decode b_Gs_lo 6 = .ok (.lreturn, 1) := by decide +kernel
theorem d_Gs_hi_0 : decode b_Gs_hi 0 = .ok (.aload_n 0, 1) := by decide +kernel
theorem d_Gs_hi_1 : decode b_Gs_hi 1 = .ok (.getfield 19, 3) := by decide +kernel
theorem d_Gs_hi_4 : decode b_Gs_hi 4 = .ok (.iload_n 1, 1) := by decide +kernel
theorem d_Gs_hi_5 : decode b_Gs_hi 5 = .ok (.laload, 1) := by decide +kernel
theorem d_Gs_hi_6 : decode b_Gs_hi 6 = .ok (.lreturn, 1) := by decide +kernel
theorem d_Gs_isEmpty_0 : decode b_Gs_isEmpty 0 = .ok (.aload_n 0, 1) := by decide +kernel
theorem d_Gs_isEmpty_1 : decode b_Gs_isEmpty 1 = .ok (.getfield 9, 3) := by decide +kernel
theorem d_Gs_isEmpty_4 : decode b_Gs_isEmpty 4 = .ok (.iload_n 1, 1) := by decide +kernel
theorem d_Gs_isEmpty_5 : decode b_Gs_isEmpty 5 = .ok (.iaload, 1) := by decide +kernel
theorem d_Gs_isEmpty_6 : decode b_Gs_isEmpty 6 = .ok (.ifCond .ne 7, 3) := by decide +kernel
theorem d_Gs_isEmpty_9 : decode b_Gs_isEmpty 9 = .ok (.iconst 1, 1) := by decide +kernel
theorem d_Gs_isEmpty_10 : decode b_Gs_isEmpty 10 = .ok (.goto 4, 3) := by decide +kernel
theorem d_Gs_isEmpty_13 : decode b_Gs_isEmpty 13 = .ok (.iconst 0, 1) := by decide +kernel
theorem d_Gs_isEmpty_14 : decode b_Gs_isEmpty 14 = .ok (.ireturn, 1) := by decide +kernel
theorem d_Gs_isRange_0 : decode b_Gs_isRange 0 = .ok (.aload_n 0, 1) := by decide +kernel
theorem d_Gs_isRange_1 : decode b_Gs_isRange 1 = .ok (.getfield 9, 3) := by decide +kernel
theorem d_Gs_isRange_4 : decode b_Gs_isRange 4 = .ok (.iload_n 1, 1) := by decide +kernel
theorem d_Gs_isRange_5 : decode b_Gs_isRange 5 = .ok (.iaload, 1) := by decide +kernel
theorem d_Gs_isRange_6 : decode b_Gs_isRange 6 = .ok (.iconst 1, 1) := by decide +kernel
theorem d_Gs_isRange_7 : decode b_Gs_isRange 7 = .ok (.if_icmp .ne 7, 3) := by decide +kernel
theorem d_Gs_isRange_10 : decode b_Gs_isRange 10 = .ok (.iconst 1, 1) := by decide +kernel
theorem d_Gs_isRange_11 : decode b_Gs_isRange 11 = .ok (.goto 4, 3) := by decide +kernel
theorem d_Gs_isRange_14 : decode b_Gs_isRange 14 = .ok (.iconst 0, 1) := by decide +kernel
theorem d_Gs_isRange_15 : decode b_Gs_isRange 15 = .ok (.ireturn, 1) := by decide +kernel
theorem d_Gs_isPlace_0 : decode b_Gs_isPlace 0 = .ok (.aload_n 0, 1) := by decide +kernel
theorem d_Gs_isPlace_1 : decode b_Gs_isPlace 1 = .ok (.getfield 9, 3) := by decide +kernel
theorem d_Gs_isPlace_4 : decode b_Gs_isPlace 4 = .ok (.iload_n 1, 1) := by decide +kernel
theorem d_Gs_isPlace_5 : decode b_Gs_isPlace 5 = .ok (.iaload, 1) := by decide +kernel
theorem d_Gs_isPlace_6 : decode b_Gs_isPlace 6 = .ok (.iconst 2, 1) := by decide +kernel
theorem d_Gs_isPlace_7 : decode b_Gs_isPlace 7 = .ok (.if_icmp .eq 13, 3) := by decide +kernel
theorem d_Gs_isPlace_10 : decode b_Gs_isPlace 10 = .ok (.aload_n 0, 1) := by decide +kernel
theorem d_Gs_isPlace_11 : decode b_Gs_isPlace 11 = .ok (.getfield 9, 3) := by decide +kernel
theorem d_Gs_isPlace_14 : decode b_Gs_isPlace 14 = .ok (.iload_n 1, 1) := by decide +kernel
theorem d_Gs_isPlace_15 : decode b_Gs_isPlace 15 = .ok (.iaload, 1) := by decide +kernel
theorem d_Gs_isPlace_16 : decode b_Gs_isPlace 16 = .ok (.iconst 3, 1) := by decide +kernel
theorem d_Gs_isPlace_17 : decode b_Gs_isPlace 17 = .ok (.if_icmp .ne 7, 3) := by decide +kernel
theorem d_Gs_isPlace_20 : decode b_Gs_isPlace 20 = .ok (.iconst 1, 1) := by decide +kernel
theorem d_Gs_isPlace_21 : decode b_Gs_isPlace 21 = .ok (.goto 4, 3) := by decide +kernel
theorem d_Gs_isPlace_24 : decode b_Gs_isPlace 24 = .ok (.iconst 0, 1) := by decide +kernel
theorem d_Gs_isPlace_25 : decode b_Gs_isPlace 25 = .ok (.ireturn, 1) := by decide +kernel
theorem d_Gs_set_0 : decode b_Gs_set 0 = .ok (.aload_n 0, 1) := by decide +kernel
theorem d_Gs_set_1 : decode b_Gs_set 1 = .ok (.getfield 9, 3) := by decide +kernel
theorem d_Gs_set_4 : decode b_Gs_set 4 = .ok (.iload_n 1, 1) := by decide +kernel
theorem d_Gs_set_5 : decode b_Gs_set 5 = .ok (.iload_n 2, 1) := by decide +kernel
theorem d_Gs_set_6 : decode b_Gs_set 6 = .ok (.iastore, 1) := by decide +kernel
theorem d_Gs_set_7 : decode b_Gs_set 7 = .ok (.aload_n 0, 1) := by decide +kernel
theorem d_Gs_set_8 : decode b_Gs_set 8 = .ok (.getfield 15, 3) := by decide +kernel
theorem d_Gs_set_11 : decode b_Gs_set 11 = .ok (.iload_n 1, 1) := by decide +kernel
theorem d_Gs_set_12 : decode b_Gs_set 12 = .ok (.lload_n 3, 1) := by decide +kernel
theorem d_Gs_set_13 : decode b_Gs_set 13 = .ok (.lastore, 1) := by decide +kernel
theorem d_Gs_set_14 : decode b_Gs_set 14 = .ok (.aload_n 0, 1) := by decide +kernel
theorem d_Gs_set_15 : decode b_Gs_set 15 = .ok (.getfield 19, 3) := by decide +kernel
theorem d_Gs_set_18 : decode b_Gs_set 18 = .ok (.iload_n 1, 1) := by decide +kernel
theorem d_Gs_set_19 : decode b_Gs_set 19 = .ok (.lload 5, 2) := by decide +kernel
theorem d_Gs_set_21 : decode b_Gs_set 21 = .ok (.lastore, 1) := by decide +kernel
theorem d_Gs_set_22 : decode b_Gs_set 22 = .ok (.return_, 1) := by decide +kernel
theorem d_Gs_setRange_0 : decode b_Gs_setRange 0 = .ok (.aload_n 0, 1) := by decide +kernel
theorem d_Gs_setRange_1 : decode b_Gs_setRange 1 = .ok (.iload_n 1, 1) := by decide +kernel
theorem d_Gs_setRange_2 : decode b_Gs_setRange 2 = .ok (.iconst 1, 1) := by decide +kernel
theorem d_Gs_setRange_3 : decode b_Gs_setRange 3 = .ok (.lload_n 2, 1) := by decide +kernel
theorem d_Gs_setRange_4 : decode b_Gs_setRange 4 = .ok (.lload 4, 2) := by decide +kernel
theorem d_Gs_setRange_6 : decode b_Gs_setRange 6 = .ok (.invokevirtual 29, 3) := by decide +kernel
theorem d_Gs_setRange_9 : decode b_Gs_setRange 9 = .ok (.return_, 1) := by decide +kernel
theorem d_Gs_setAny_0 : decode b_Gs_setAny 0 = .ok (.aload_n 0, 1) := by decide +kernel
theorem d_Gs_setAny_1 : decode b_Gs_setAny 1 = .ok (.iload_n 1, 1) := by decide +kernel
theorem d_Gs_setAny_2 : decode b_Gs_setAny 2 = .ok (.iconst 1, 1) := by decide +kernel
theorem d_Gs_setAny_3 : decode b_Gs_setAny 3 = .ok (.ldc2_w 41, 3) := by decide +kernel
theorem d_Gs_setAny_6 : decode b_Gs_setAny 6 = .ok (.ldc2_w 43, 3) := by decide +kernel
theorem d_Gs_setAny_9 : decode b_Gs_setAny 9 = .ok (.invokevirtual 29, 3) := by decide +kernel
theorem d_Gs_setAny_12 : decode b_Gs_setAny 12 = .ok (.return_, 1) := by decide +kernel
theorem d_Gs_clear_0 : decode b_Gs_clear 0 = .ok (.aload_n 0, 1) := by decide +kernel
theorem d_Gs_clear_1 : decode b_Gs_clear 1 = .ok (.iload_n 1, 1) := by decide +kernel
theorem d_Gs_clear_2 : decode b_Gs_clear 2 = .ok (.iconst 0, 1) := by decide +kernel
theorem d_Gs_clear_3 : decode b_Gs_clear 3 = .ok (.lconst 0, 1) := by decide +kernel
theorem d_Gs_clear_4 : decode b_Gs_clear 4 = .ok (.lconst 0, 1) := by decide +kernel
theorem d_Gs_clear_5 : decode b_Gs_clear 5 = .ok (.invokevirtual 29, 3) := by decide +kernel
theorem d_Gs_clear_8 : decode b_Gs_clear 8 = .ok (.return_, 1) := by decide +kernel
theorem d_Gs_copy_0 : decode b_Gs_copy 0 = .ok (.aload_n 0, 1) := by decide +kernel
theorem d_Gs_copy_1 : decode b_Gs_copy 1 = .ok (.iload_n 1, 1) := by decide +kernel
theorem d_Gs_copy_2 : decode b_Gs_copy 2 = .ok (.aload_n 0, 1) := by decide +kernel
theorem d_Gs_copy_3 : decode b_Gs_copy 3 = .ok (.getfield 9, 3) := by decide +kernel
theorem d_Gs_copy_6 : decode b_Gs_copy 6 = .ok (.iload_n 2, 1) := by decide +kernel
theorem d_Gs_copy_7 : decode b_Gs_copy 7 = .ok (.iaload, 1) := by decide +kernel
theorem d_Gs_copy_8 : decode b_Gs_copy 8 = .ok (.aload_n 0, 1) := by decide +kernel
theorem d_Gs_copy_9 : decode b_Gs_copy 9 = .ok (.getfield 15, 3) := by decide +kernel
theorem d_Gs_copy_12 : decode b_Gs_copy 12 = .ok (.iload_n 2, 1) := by decide +kernel
theorem d_Gs_copy_13 : decode b_Gs_copy 13 = .ok (.laload, 1) := by decide +kernel
theorem d_Gs_copy_14 : decode b_Gs_copy 14 = .ok (.aload_n 0, 1) := by decide +kernel
theorem d_Gs_copy_15 : decode b_Gs_copy 15 = .ok (.getfield 19, 3) := by decide +kernel
theorem d_Gs_copy_18 : decode b_Gs_copy 18 = .ok (.iload_n 2, 1) := by decide +kernel
theorem d_Gs_copy_19 : decode b_Gs_copy 19 = .ok (.laload, 1) := by decide +kernel
theorem d_Gs_copy_20 : decode b_Gs_copy 20 = .ok (.invokevirtual 29, 3) := by decide +kernel
theorem d_Gs_copy_23 : decode b_Gs_copy 23 = .ok (.return_, 1) := by decide +kernel
theorem d_Gs_widen_0 : decode b_Gs_widen 0 = .ok (.aload_n 0, 1) := by decide +kernel
theorem d_Gs_widen_1 : decode b_Gs_widen 1 = .ok (.iload_n 1, 1) := by decide +kernel
theorem d_Gs_widen_2 : decode b_Gs_widen 2 = .ok (.iconst 1, 1) := by decide +kernel
theorem d_Gs_widen_3 : decode b_Gs_widen 3 = .ok (.aload_n 0, 1) := by decide +kernel
theorem d_Gs_widen_4 : decode b_Gs_widen 4 = .ok (.getfield 15, 3) := by decide +kernel
theorem d_Gs_widen_7 : decode b_Gs_widen 7 = .ok (.iload_n 1, 1) := by decide +kernel
theorem d_Gs_widen_8 : decode b_Gs_widen 8 = .ok (.laload, 1) := by decide +kernel
theorem d_Gs_widen_9 : decode b_Gs_widen 9 = .ok (.lload_n 2, 1) := by decide +kernel
theorem d_Gs_widen_10 : decode b_Gs_widen 10 = .ok (.invokestatic 45, 3) := by decide +kernel
theorem d_Gs_widen_13 : decode b_Gs_widen 13 = .ok (.aload_n 0, 1) := by decide +kernel
theorem d_Gs_widen_14 : decode b_Gs_widen 14 = .ok (.getfield 19, 3) := by decide +kernel
theorem d_Gs_widen_17 : decode b_Gs_widen 17 = .ok (.iload_n 1, 1) := by decide +kernel
theorem d_Gs_widen_18 : decode b_Gs_widen 18 = .ok (.laload, 1) := by decide +kernel
theorem d_Gs_widen_19 : decode b_Gs_widen 19 = .ok (.lload 4, 2) := by decide +kernel
theorem d_Gs_widen_21 : decode b_Gs_widen 21 = .ok (.invokestatic 51, 3) := by decide +kernel
theorem d_Gs_widen_24 : decode b_Gs_widen 24 = .ok (.invokevirtual 29, 3) := by decide +kernel
theorem d_Gs_widen_27 : decode b_Gs_widen 27 = .ok (.return_, 1) := by decide +kernel
theorem d_Gs_setBetween_0 : decode b_Gs_setBetween 0 = .ok (.aload_n 0, 1) := by decide +kernel
theorem d_Gs_setBetween_1 : decode b_Gs_setBetween 1 = .ok (.iload_n 1, 1) := by decide +kernel
theorem d_Gs_setBetween_2 : decode b_Gs_setBetween 2 = .ok (.iconst 1, 1) := by decide +kernel
theorem d_Gs_setBetween_3 : decode b_Gs_setBetween 3 = .ok (.lload_n 2, 1) := by decide +kernel
theorem d_Gs_setBetween_4 : decode b_Gs_setBetween 4 = .ok (.lload 4, 2) := by decide +kernel
theorem d_Gs_setBetween_6 : decode b_Gs_setBetween 6 = .ok (.invokestatic 45, 3) := by decide +kernel
theorem d_Gs_setBetween_9 : decode b_Gs_setBetween 9 = .ok (.lload_n 2, 1) := by decide +kernel
theorem d_Gs_setBetween_10 : decode b_Gs_setBetween 10 = .ok (.lload 4, 2) := by decide +kernel
theorem d_Gs_setBetween_12 : decode b_Gs_setBetween 12 = .ok (.invokestatic 51, 3) := by decide +kernel
theorem d_Gs_setBetween_15 : decode b_Gs_setBetween 15 = .ok (.invokevirtual 29, 3) := by decide +kernel
theorem d_Gs_setBetween_18 : decode b_Gs_setBetween 18 = .ok (.return_, 1) := by decide +kernel
theorem d_Pg_init_0 : decode b_Pg_init 0 = .ok (.aload_n 0, 1) := by decide +kernel
theorem d_Pg_init_1 : decode b_Pg_init 1 = .ok (.invokespecial 3, 3) := by decide +kernel
theorem d_Pg_init_4 : decode b_Pg_init 4 = .ok (.aload_n 0, 1) := by decide +kernel
theorem d_Pg_init_5 : decode b_Pg_init 5 = .ok (.bipush 24, 2) := by decide +kernel
theorem d_Pg_init_7 : decode b_Pg_init 7 = .ok (.anewarray 9, 3) := by decide +kernel
theorem d_Pg_init_10 : decode b_Pg_init 10 = .ok (.putfield 11, 3) := by decide +kernel
theorem d_Pg_init_13 : decode b_Pg_init 13 = .ok (.iconst 0, 1) := by decide +kernel
theorem d_Pg_init_14 : decode b_Pg_init 14 = .ok (.istore_n 1, 1) := by decide +kernel
theorem d_Pg_init_15 : decode b_Pg_init 15 = .ok (.iload_n 1, 1) := by decide +kernel
theorem d_Pg_init_16 : decode b_Pg_init 16 = .ok (.bipush 24, 2) := by decide +kernel
theorem d_Pg_init_18 : decode b_Pg_init 18 = .ok (.if_icmp .ge 22, 3) := by decide +kernel
theorem d_Pg_init_21 : decode b_Pg_init 21 = .ok (.aload_n 0, 1) := by decide +kernel
theorem d_Pg_init_22 : decode b_Pg_init 22 = .ok (.getfield 11, 3) := by decide +kernel
theorem d_Pg_init_25 : decode b_Pg_init 25 = .ok (.iload_n 1, 1) := by decide +kernel
theorem d_Pg_init_26 : decode b_Pg_init 26 = .ok (.new 9, 3) := by decide +kernel
theorem d_Pg_init_29 : decode b_Pg_init 29 = .ok (.dup, 1) := by decide +kernel
theorem d_Pg_init_30 : decode b_Pg_init 30 = .ok (.invokespecial 17, 3) := by decide +kernel
theorem d_Pg_init_33 : decode b_Pg_init 33 = .ok (.aastore, 1) := by decide +kernel
theorem d_Pg_init_34 : decode b_Pg_init 34 = .ok (.iinc 1 1, 3) := by decide +kernel
theorem d_Pg_init_37 : decode b_Pg_init 37 = .ok (.goto (-22), 3) := by decide +kernel
theorem d_Pg_init_40 : decode b_Pg_init 40 = .ok (.aload_n 0, 1) := by decide +kernel
theorem d_Pg_init_41 : decode b_Pg_init 41 = .ok (.iconst 0, 1) := by decide +kernel
theorem d_Pg_init_42 : decode b_Pg_init 42 = .ok (.putfield 18, 3) := by decide +kernel
theorem d_Pg_init_45 : decode b_Pg_init 45 = .ok (.return_, 1) := by decide +kernel
theorem d_Pg_allows_0 : decode b_Pg_allows 0 = .ok (.iload_n 0, 1) := by decide +kernel
theorem d_Pg_allows_1 : decode b_Pg_allows 1 = .ok (.ifCond .lt 37, 3) := by decide +kernel
theorem d_Pg_allows_4 : decode b_Pg_allows 4 = .ok (.iload_n 0, 1) := by decide +kernel
theorem d_Pg_allows_5 : decode b_Pg_allows 5 = .ok (.bipush 17, 2) := by decide +kernel
theorem d_Pg_allows_7 : decode b_Pg_allows 7 = .ok (.if_icmp .gt 31, 3) := by decide +kernel
theorem d_Pg_allows_10 : decode b_Pg_allows 10 = .ok (.iload_n 1, 1) := by decide +kernel
theorem d_Pg_allows_11 : decode b_Pg_allows 11 = .ok (.invokestatic 22, 3) := by decide +kernel
theorem d_Pg_allows_14 : decode b_Pg_allows 14 = .ok (.ifCond .eq 24, 3) := by decide +kernel
theorem d_Pg_allows_17 : decode b_Pg_allows 17 = .ok (.iload_n 2, 1) := by decide +kernel
theorem d_Pg_allows_18 : decode b_Pg_allows 18 = .ok (.invokestatic 22, 3) := by decide +kernel
theorem d_Pg_allows_21 : decode b_Pg_allows 21 = .ok (.ifCond .eq 17, 3) := by decide +kernel
theorem d_Pg_allows_24 : decode b_Pg_allows 24 = .ok (.iload_n 3, 1) := by decide +kernel
theorem d_Pg_allows_25 : decode b_Pg_allows 25 = .ok (.ifCond .lt 13, 3) := by decide +kernel
theorem d_Pg_allows_28 : decode b_Pg_allows 28 = .ok (.iload_n 3, 1) := by decide +kernel
theorem d_Pg_allows_29 : decode b_Pg_allows 29 = .ok (.bipush 24, 2) := by decide +kernel
theorem d_Pg_allows_31 : decode b_Pg_allows 31 = .ok (.if_icmp .ge 7, 3) := by decide +kernel
theorem d_Pg_allows_34 : decode b_Pg_allows 34 = .ok (.iconst 1, 1) := by decide +kernel
theorem d_Pg_allows_35 : decode b_Pg_allows 35 = .ok (.goto 4, 3) := by decide +kernel
theorem d_Pg_allows_38 : decode b_Pg_allows 38 = .ok (.iconst 0, 1) := by decide +kernel
theorem d_Pg_allows_39 : decode b_Pg_allows 39 = .ok (.ireturn, 1) := by decide +kernel
theorem d_Pg_isRegister_0 : decode b_Pg_isRegister 0 = .ok (.iload_n 0, 1) := by decide +kernel
theorem d_Pg_isRegister_1 : decode b_Pg_isRegister 1 = .ok (.ifCond .lt 13, 3) := by decide +kernel
theorem d_Pg_isRegister_4 : decode b_Pg_isRegister 4 = .ok (.iload_n 0, 1) := by decide +kernel
theorem d_Pg_isRegister_5 : decode b_Pg_isRegister 5 = .ok (.bipush 6, 2) := by decide +kernel
theorem d_Pg_isRegister_7 : decode b_Pg_isRegister 7 = .ok (.if_icmp .ge 7, 3) := by decide +kernel
theorem d_Pg_isRegister_10 : decode b_Pg_isRegister 10 = .ok (.iconst 1, 1) := by decide +kernel
theorem d_Pg_isRegister_11 : decode b_Pg_isRegister 11 = .ok (.goto 4, 3) := by decide +kernel
theorem d_Pg_isRegister_14 : decode b_Pg_isRegister 14 = .ok (.iconst 0, 1) := by decide +kernel
theorem d_Pg_isRegister_15 : decode b_Pg_isRegister 15 = .ok (.ireturn, 1) := by decide +kernel
theorem d_Pg_size_0 : decode b_Pg_size 0 = .ok (.aload_n 0, 1) := by decide +kernel
theorem d_Pg_size_1 : decode b_Pg_size 1 = .ok (.getfield 18, 3) := by decide +kernel
theorem d_Pg_size_4 : decode b_Pg_size 4 = .ok (.ireturn, 1) := by decide +kernel
theorem d_Pg_grow_0 : decode b_Pg_grow 0 = .ok (.aload_n 0, 1) := by decide +kernel
theorem d_Pg_grow_1 : decode b_Pg_grow 1 = .ok (.getfield 18, 3) := by decide +kernel
theorem d_Pg_grow_4 : decode b_Pg_grow 4 = .ok (.bipush 24, 2) := by decide +kernel
theorem d_Pg_grow_6 : decode b_Pg_grow 6 = .ok (.if_icmp .ge 13, 3) := by decide +kernel
theorem d_Pg_grow_9 : decode b_Pg_grow 9 = .ok (.aload_n 0, 1) := by decide +kernel
theorem d_Pg_grow_10 : decode b_Pg_grow 10 = .ok (.dup, 1) := by decide +kernel
theorem d_Pg_grow_11 : decode b_Pg_grow 11 = .ok (.getfield 18, 3) := by decide +kernel
theorem d_Pg_grow_14 : decode b_Pg_grow 14 = .ok (.iconst 1, 1) := by decide +kernel
theorem d_Pg_grow_15 : decode b_Pg_grow 15 = .ok (.iadd, 1) := by decide +kernel
theorem d_Pg_grow_16 : decode b_Pg_grow 16 = .ok (.putfield 18, 3) := by decide +kernel
theorem d_Pg_grow_19 : decode b_Pg_grow 19 = .ok (.aload_n 0, 1) := by decide +kernel
theorem d_Pg_grow_20 : decode b_Pg_grow 20 = .ok (.getfield 18, 3) := by decide +kernel
theorem d_Pg_grow_23 : decode b_Pg_grow 23 = .ok (.iconst 1, 1) := by decide +kernel
theorem d_Pg_grow_24 : decode b_Pg_grow 24 = .ok (.isub, 1) := by decide +kernel
theorem d_Pg_grow_25 : decode b_Pg_grow 25 = .ok (.ireturn, 1) := by decide +kernel
theorem d_Pg_shorten_0 : decode b_Pg_shorten 0 = .ok (.aload_n 0, 1) := by decide +kernel
theorem d_Pg_shorten_1 : decode b_Pg_shorten 1 = .ok (.iload_n 1, 1) := by decide +kernel
theorem d_Pg_shorten_2 : decode b_Pg_shorten 2 = .ok (.putfield 18, 3) := by decide +kernel
theorem d_Pg_shorten_5 : decode b_Pg_shorten 5 = .ok (.return_, 1) := by decide +kernel
theorem d_Pg_write_0 : decode b_Pg_write 0 = .ok (.aload_n 0, 1) := by decide +kernel
theorem d_Pg_write_1 : decode b_Pg_write 1 = .ok (.iload_n 1, 1) := by decide +kernel
theorem d_Pg_write_2 : decode b_Pg_write 2 = .ok (.invokevirtual 26, 3) := by decide +kernel
theorem d_Pg_write_5 : decode b_Pg_write 5 = .ok (.astore 7, 2) := by decide +kernel
theorem d_Pg_write_7 : decode b_Pg_write 7 = .ok (.aload 7, 2) := by decide +kernel
theorem d_Pg_write_9 : decode b_Pg_write 9 = .ok (.ifnonnull 4, 3) := by decide +kernel
theorem d_Pg_write_12 : decode b_Pg_write 12 = .ok (.return_, 1) := by decide +kernel
theorem d_Pg_write_13 : decode b_Pg_write 13 = .ok (.aload 7, 2) := by decide +kernel
theorem d_Pg_write_15 : decode b_Pg_write 15 = .ok (.iload_n 2, 1) := by decide +kernel
theorem d_Pg_write_16 : decode b_Pg_write 16 = .ok (.putfield 30, 3) := by decide +kernel
theorem d_Pg_write_19 : decode b_Pg_write 19 = .ok (.aload 7, 2) := by decide +kernel
theorem d_Pg_write_21 : decode b_Pg_write 21 = .ok (.iload_n 3, 1) := by decide +kernel
theorem d_Pg_write_22 : decode b_Pg_write 22 = .ok (.putfield 33, 3) := by decide +kernel
theorem d_Pg_write_25 : decode b_Pg_write 25 = .ok (.aload 7, 2) := by decide +kernel
theorem d_Pg_write_27 : decode b_Pg_write 27 = .ok (.iload 4, 2) := by decide +kernel
theorem d_Pg_write_29 : decode b_Pg_write 29 = .ok (.putfield 36, 3) := by decide +kernel
theorem d_Pg_write_32 : decode b_Pg_write 32 = .ok (.aload 7, 2) := by decide +kernel
theorem d_Pg_write_34 : decode b_Pg_write 34 = .ok (.iload 5, 2) := by decide +kernel
theorem d_Pg_write_36 : decode b_Pg_write 36 = .ok (.putfield 39, 3) := by decide +kernel
theorem d_Pg_write_39 : decode b_Pg_write 39 = .ok (.aload 7, 2) := by decide +kernel
theorem d_Pg_write_41 : decode b_Pg_write 41 = .ok (.iload 6, 2) := by decide +kernel
theorem d_Pg_write_43 : decode b_Pg_write 43 = .ok (.putfield 42, 3) := by decide +kernel
theorem d_Pg_write_46 : decode b_Pg_write 46 = .ok (.return_, 1) := by decide +kernel
theorem d_Pg_stepAt_0 : decode b_Pg_stepAt 0 = .ok (.iload_n 1, 1) := by decide +kernel
theorem d_Pg_stepAt_1 : decode b_Pg_stepAt 1 = .ok (.ifCond .lt 26, 3) := by decide +kernel
theorem d_Pg_stepAt_4 : decode b_Pg_stepAt 4 = .ok (.iload_n 1, 1) := by decide +kernel
theorem d_Pg_stepAt_5 : decode b_Pg_stepAt 5 = .ok (.aload_n 0, 1) := by decide +kernel
theorem d_Pg_stepAt_6 : decode b_Pg_stepAt 6 = .ok (.getfield 18, 3) := by decide +kernel
theorem d_Pg_stepAt_9 : decode b_Pg_stepAt 9 = .ok (.if_icmp .ge 18, 3) := by decide +kernel
theorem d_Pg_stepAt_12 : decode b_Pg_stepAt 12 = .ok (.iload_n 1, 1) := by decide +kernel
theorem d_Pg_stepAt_13 : decode b_Pg_stepAt 13 = .ok (.bipush 24, 2) := by decide +kernel
theorem d_Pg_stepAt_15 : decode b_Pg_stepAt 15 = .ok (.if_icmp .ge 12, 3) := by decide +kernel
theorem d_Pg_stepAt_18 : decode b_Pg_stepAt 18 = .ok (.aload_n 0, 1) := by decide +kernel
theorem d_Pg_stepAt_19 : decode b_Pg_stepAt 19 = .ok (.getfield 11, 3) := by decide +kernel
theorem d_Pg_stepAt_22 : decode b_Pg_stepAt 22 = .ok (.iload_n 1, 1) := by decide +kernel
theorem d_Pg_stepAt_23 : decode b_Pg_stepAt 23 = .ok (.aaload, 1) := by decide +kernel
theorem d_Pg_stepAt_24 : decode b_Pg_stepAt 24 = .ok (.goto 4, 3) := by decide +kernel
theorem d_Pg_stepAt_27 : decode b_Pg_stepAt 27 = .ok (.aconst_null, 1) := by decide +kernel
theorem d_Pg_stepAt_28 : decode b_Pg_stepAt 28 = .ok (.areturn, 1) := by decide +kernel
theorem d_St_init_0 : decode b_St_init 0 = .ok (.aload_n 0, 1) := by decide +kernel
theorem d_St_init_1 : decode b_St_init 1 = .ok (.invokespecial 3, 3) := by decide +kernel
theorem d_St_init_4 : decode b_St_init 4 = .ok (.return_, 1) := by decide +kernel
theorem d_St_isCallOf_0 : decode b_St_isCallOf 0 = .ok (.aload_n 0, 1) := by decide +kernel
theorem d_St_isCallOf_1 : decode b_St_isCallOf 1 = .ok (.getfield 9, 3) := by decide +kernel
theorem d_St_isCallOf_4 : decode b_St_isCallOf 4 = .ok (.bipush 16, 2) := by decide +kernel
theorem d_St_isCallOf_6 : decode b_St_isCallOf 6 = .ok (.if_icmp .ne 15, 3) := by decide +kernel
theorem d_St_isCallOf_9 : decode b_St_isCallOf 9 = .ok (.aload_n 0, 1) := by decide +kernel
theorem d_St_isCallOf_10 : decode b_St_isCallOf 10 = .ok (.getfield 15, 3) := by decide +kernel
theorem d_St_isCallOf_13 : decode b_St_isCallOf 13 = .ok (.iload_n 1, 1) := by decide +kernel
theorem d_St_isCallOf_14 : decode b_St_isCallOf 14 = .ok (.if_icmp .ne 7, 3) := by decide +kernel
theorem d_St_isCallOf_17 : decode b_St_isCallOf 17 = .ok (.iconst 1, 1) := by decide +kernel
theorem d_St_isCallOf_18 : decode b_St_isCallOf 18 = .ok (.goto 4, 3) := by decide +kernel
theorem d_St_isCallOf_21 : decode b_St_isCallOf 21 = .ok (.iconst 0, 1) := by decide +kernel
theorem d_St_isCallOf_22 : decode b_St_isCallOf 22 = .ok (.ireturn, 1) := by decide +kernel
theorem d_St_mayJump_0 : decode b_St_mayJump 0 = .ok (.aload_n 0, 1) := by decide +kernel
theorem d_St_mayJump_1 : decode b_St_mayJump 1 = .ok (.getfield 9, 3) := by decide +kernel
theorem d_St_mayJump_4 : decode b_St_mayJump 4 = .ok (.bipush 10, 2) := by decide +kernel
theorem d_St_mayJump_6 : decode b_St_mayJump 6 = .ok (.if_icmp .lt 16, 3) := by decide +kernel
theorem d_St_mayJump_9 : decode b_St_mayJump 9 = .ok (.aload_n 0, 1) := by decide +kernel
theorem d_St_mayJump_10 : decode b_St_mayJump 10 = .ok (.getfield 9, 3) := by decide +kernel
theorem d_St_mayJump_13 : decode b_St_mayJump 13 = .ok (.bipush 13, 2) := by decide +kernel
theorem d_St_mayJump_15 : decode b_St_mayJump 15 = .ok (.if_icmp .gt 7, 3) := by decide +kernel
theorem d_St_mayJump_18 : decode b_St_mayJump 18 = .ok (.iconst 1, 1) := by decide +kernel
theorem d_St_mayJump_19 : decode b_St_mayJump 19 = .ok (.goto 4, 3) := by decide +kernel
theorem d_St_mayJump_22 : decode b_St_mayJump 22 = .ok (.iconst 0, 1) := by decide +kernel
theorem d_St_mayJump_23 : decode b_St_mayJump 23 = .ok (.ireturn, 1) := by decide +kernel
theorem d_St_usesD_0 : decode b_St_usesD 0 = .ok (.aload_n 0, 1) := by decide +kernel
theorem d_St_usesD_1 : decode b_St_usesD 1 = .ok (.getfield 9, 3) := by decide +kernel
theorem d_St_usesD_4 : decode b_St_usesD 4 = .ok (.iconst 2, 1) := by decide +kernel
theorem d_St_usesD_5 : decode b_St_usesD 5 = .ok (.if_icmp .lt 12, 3) := by decide +kernel
theorem d_St_usesD_8 : decode b_St_usesD 8 = .ok (.aload_n 0, 1) := by decide +kernel
theorem d_St_usesD_9 : decode b_St_usesD 9 = .ok (.getfield 9, 3) := by decide +kernel
theorem d_St_usesD_12 : decode b_St_usesD 12 = .ok (.bipush 12, 2) := by decide +kernel
theorem d_St_usesD_14 : decode b_St_usesD 14 = .ok (.if_icmp .le 12, 3) := by decide +kernel
theorem d_St_usesD_17 : decode b_St_usesD 17 = .ok (.aload_n 0, 1) := by decide +kernel
theorem d_St_usesD_18 : decode b_St_usesD 18 = .ok (.getfield 9, 3) := by decide +kernel
theorem d_St_usesD_21 : decode b_St_usesD 21 = .ok (.bipush 15, 2) := by decide +kernel
theorem d_St_usesD_23 : decode b_St_usesD 23 = .ok (.if_icmp .ne 7, 3) := by decide +kernel
theorem d_St_usesD_26 : decode b_St_usesD 26 = .ok (.iconst 1, 1) := by decide +kernel
theorem d_St_usesD_27 : decode b_St_usesD 27 = .ok (.goto 4, 3) := by decide +kernel
theorem d_St_usesD_30 : decode b_St_usesD 30 = .ok (.iconst 0, 1) := by decide +kernel
theorem d_St_usesD_31 : decode b_St_usesD 31 = .ok (.ireturn, 1) := by decide +kernel
theorem d_St_usesS_0 : decode b_St_usesS 0 = .ok (.aload_n 0, 1) := by decide +kernel
theorem d_St_usesS_1 : decode b_St_usesS 1 = .ok (.getfield 9, 3) := by decide +kernel
theorem d_St_usesS_4 : decode b_St_usesS 4 = .ok (.iconst 1, 1) := by decide +kernel
theorem d_St_usesS_5 : decode b_St_usesS 5 = .ok (.if_icmp .eq 46, 3) := by decide +kernel
theorem d_St_usesS_8 : decode b_St_usesS 8 = .ok (.aload_n 0, 1) := by decide +kernel
theorem d_St_usesS_9 : decode b_St_usesS 9 = .ok (.getfield 9, 3) := by decide +kernel
theorem d_St_usesS_12 : decode b_St_usesS 12 = .ok (.iconst 3, 1) := by decide +kernel
theorem d_St_usesS_13 : decode b_St_usesS 13 = .ok (.if_icmp .eq 38, 3) := by decide +kernel
theorem d_St_usesS_16 : decode b_St_usesS 16 = .ok (.aload_n 0, 1) := by decide +kernel
theorem d_St_usesS_17 : decode b_St_usesS 17 = .ok (.getfield 9, 3) := by decide +kernel
theorem d_St_usesS_20 : decode b_St_usesS 20 = .ok (.iconst 4, 1) := by decide +kernel
theorem d_St_usesS_21 : decode b_St_usesS 21 = .ok (.if_icmp .eq 30, 3) := by decide +kernel
theorem d_St_usesS_24 : decode b_St_usesS 24 = .ok (.aload_n 0, 1) := by decide +kernel
theorem d_St_usesS_25 : decode b_St_usesS 25 = .ok (.getfield 9, 3) := by decide +kernel
theorem d_St_usesS_28 : decode b_St_usesS 28 = .ok (.bipush 12, 2) := by decide +kernel
theorem d_St_usesS_30 : decode b_St_usesS 30 = .ok (.if_icmp .eq 21, 3) := by decide +kernel
theorem d_St_usesS_33 : decode b_St_usesS 33 = .ok (.aload_n 0, 1) := by decide +kernel
theorem d_St_usesS_34 : decode b_St_usesS 34 = .ok (.getfield 9, 3) := by decide +kernel
theorem d_St_usesS_37 : decode b_St_usesS 37 = .ok (.bipush 14, 2) := by decide +kernel
theorem d_St_usesS_39 : decode b_St_usesS 39 = .ok (.if_icmp .eq 12, 3) := by decide +kernel
theorem d_St_usesS_42 : decode b_St_usesS 42 = .ok (.aload_n 0, 1) := by decide +kernel
theorem d_St_usesS_43 : decode b_St_usesS 43 = .ok (.getfield 9, 3) := by decide +kernel
theorem d_St_usesS_46 : decode b_St_usesS 46 = .ok (.bipush 15, 2) := by decide +kernel
theorem d_St_usesS_48 : decode b_St_usesS 48 = .ok (.if_icmp .ne 7, 3) := by decide +kernel
theorem d_St_usesS_51 : decode b_St_usesS 51 = .ok (.iconst 1, 1) := by decide +kernel
theorem d_St_usesS_52 : decode b_St_usesS 52 = .ok (.goto 4, 3) := by decide +kernel
theorem d_St_usesS_55 : decode b_St_usesS 55 = .ok (.iconst 0, 1) := by decide +kernel
theorem d_St_usesS_56 : decode b_St_usesS 56 = .ok (.ireturn, 1) := by decide +kernel
