theorem i_Ck {w0 : Cond} : ∀ w ∈ u_ws R_Ck T_Ck 13, w ∈ w0 :: x_Wd := by
  intro w hw
  obtain ⟨k, hk, rfl⟩ := List.mem_map.mp hw
  have hk := List.mem_range.mp hk
  refine List.mem_cons_of_mem _ ?_
  match k, hk with
  | 0, _ => exact q_147
  | 1, _ => exact q_149
  | 2, _ => exact q_151
  | 3, _ => exact q_153
  | 4, _ => exact q_155
  | 5, _ => exact q_157
  | 6, _ => exact q_159
  | 7, _ => exact q_161
  | 8, _ => exact q_163
  | 9, _ => exact q_165
  | 10, _ => exact q_167
  | 11, _ => exact q_169
  | 12, _ => exact q_171
  | k + 13, h => exact absurd h (by omega)
theorem i_Ef {w0 : Cond} : ∀ w ∈ u_ws R_Ef T_Ef 1, w ∈ w0 :: x_Wd := by
  intro w hw
  obtain ⟨k, hk, rfl⟩ := List.mem_map.mp hw
  have hk := List.mem_range.mp hk
  refine List.mem_cons_of_mem _ ?_
  match k, hk with
  | 0, _ => exact q_130
  | k + 1, h => exact absurd h (by omega)
theorem i_Gs {w0 : Cond} : ∀ w ∈ u_ws R_Gs T_Gs 3, w ∈ w0 :: x_Wd := by
  intro w hw
  obtain ⟨k, hk, rfl⟩ := List.mem_map.mp hw
  have hk := List.mem_range.mp hk
  refine List.mem_cons_of_mem _ ?_
  match k, hk with
  | 0, _ => exact q_101
  | 1, _ => exact q_103
  | 2, _ => exact q_105
  | k + 3, h => exact absurd h (by omega)
theorem i_Jg {w0 : Cond} : ∀ w ∈ u_ws R_Jg T_Jg 2, w ∈ w0 :: x_Wd := by
  intro w hw
  obtain ⟨k, hk, rfl⟩ := List.mem_map.mp hw
  have hk := List.mem_range.mp hk
  refine List.mem_cons_of_mem _ ?_
  match k, hk with
  | 0, _ => exact q_118
  | 1, _ => exact q_120
  | k + 2, h => exact absurd h (by omega)
theorem i_Pg {w0 : Cond} : ∀ w ∈ u_ws R_Pg T_Pg 2, w ∈ w0 :: x_Wd := by
  intro w hw
  obtain ⟨k, hk, rfl⟩ := List.mem_map.mp hw
  have hk := List.mem_range.mp hk
  refine List.mem_cons_of_mem _ ?_
  match k, hk with
  | 0, _ => exact q_81
  | 1, _ => exact q_83
  | k + 2, h => exact absurd h (by omega)
theorem i_Rn {w0 : Cond} : ∀ w ∈ u_ws R_Rn T_Rn 6, w ∈ w0 :: x_Wd := by
  intro w hw
  obtain ⟨k, hk, rfl⟩ := List.mem_map.mp hw
  have hk := List.mem_range.mp hk
  refine List.mem_cons_of_mem _ ?_
  match k, hk with
  | 0, _ => exact q_189
  | 1, _ => exact q_191
  | 2, _ => exact q_193
  | 3, _ => exact q_195
  | 4, _ => exact q_197
  | 5, _ => exact q_199
  | k + 6, h => exact absurd h (by omega)
theorem i_St {w0 : Cond} : ∀ w ∈ u_ws R_St T_St 5, w ∈ w0 :: x_Wd := by
  intro w hw
  obtain ⟨k, hk, rfl⟩ := List.mem_map.mp hw
  have hk := List.mem_range.mp hk
  refine List.mem_cons_of_mem _ ?_
  match k, hk with
  | 0, _ => exact q_68
  | 1, _ => exact q_70
  | 2, _ => exact q_72
  | 3, _ => exact q_74
  | 4, _ => exact q_76
  | k + 5, h => exact absurd h (by omega)
theorem i_CM {w0 : Cond} : ∀ w ∈ u_ws R_CM T_CM 4, w ∈ w0 :: x_Wd := by
  intro w hw
  obtain ⟨k, hk, rfl⟩ := List.mem_map.mp hw
  have hk := List.mem_range.mp hk
  refine List.mem_cons_of_mem _ ?_
  match k, hk with
  | 0, _ => exact q_206
  | 1, _ => exact q_208
  | 2, _ => exact q_210
  | 3, _ => exact q_212
  | k + 4, h => exact absurd h (by omega)
theorem i_Md {w0 : Cond} : ∀ w ∈ u_ws R_Md T_Md 26, w ∈ w0 :: x_Wd := by
  intro w hw
  obtain ⟨k, hk, rfl⟩ := List.mem_map.mp hw
  have hk := List.mem_range.mp hk
  refine List.mem_cons_of_mem _ ?_
  match k, hk with
  | 0, _ => exact q_817
  | 1, _ => exact q_819
  | 2, _ => exact q_821
  | 3, _ => exact q_823
  | 4, _ => exact q_825
  | 5, _ => exact q_827
  | 6, _ => exact q_829
  | 7, _ => exact q_831
  | 8, _ => exact q_833
  | 9, _ => exact q_835
  | 10, _ => exact q_837
  | 11, _ => exact q_839
  | 12, _ => exact q_841
  | 13, _ => exact q_843
  | 14, _ => exact q_845
  | 15, _ => exact q_847
  | 16, _ => exact q_849
  | 17, _ => exact q_851
  | 18, _ => exact q_853
  | 19, _ => exact q_855
  | 20, _ => exact q_857
  | 21, _ => exact q_859
  | 22, _ => exact q_861
  | 23, _ => exact q_863
  | 24, _ => exact q_865
  | 25, _ => exact q_867
  | k + 26, h => exact absurd h (by omega)
theorem k_CM_add : x_cal y_CM_add b_CM_add 7 (Option.some Jvm.ClassFile.FieldType.int) 5 := ⟨⟨q_249, q_250, q_1, q_251⟩, ⟨by decide, by decide, by decide +kernel⟩⟩
theorem k_CM_put : x_cal y_CM_put b_CM_put 7 (Option.none : Option Jvm.ClassFile.FieldType) 6 := ⟨⟨q_360, q_361, q_1, q_362⟩, ⟨by decide, by decide, by decide +kernel⟩⟩
theorem k_CM_cut : x_cal y_CM_cut b_CM_cut 2 (Option.none : Option Jvm.ClassFile.FieldType) 1 := ⟨⟨q_383, q_384, q_1, q_385⟩, ⟨by decide, by decide, by decide +kernel⟩⟩
theorem k_CM_check : x_cal y_CM_check b_CM_check 2 (Option.some Jvm.ClassFile.FieldType.int) 0 := ⟨⟨q_396, q_397, q_1, q_398⟩, ⟨by decide, by decide, by decide +kernel⟩⟩
theorem k_CM_run : x_cal y_CM_run b_CM_run 3 (Option.some Jvm.ClassFile.FieldType.long) 1 := ⟨⟨q_693, q_694, q_1, q_695⟩, ⟨by decide, by decide, by decide +kernel⟩⟩
theorem k_CM_row : x_cal y_CM_row b_CM_row 3 (Option.some Jvm.ClassFile.FieldType.long) 2 := ⟨⟨q_756, q_757, q_1, q_758⟩, ⟨by decide, by decide, by decide +kernel⟩⟩
theorem k_CM_fill : x_cal y_CM_fill b_CM_fill 5 (Option.none : Option Jvm.ClassFile.FieldType) 3 := ⟨⟨q_766, q_767, q_1, q_768⟩, ⟨by decide, by decide, by decide +kernel⟩⟩
theorem k_CM_outcome : x_cal y_CM_outcome b_CM_outcome 2 (Option.some Jvm.ClassFile.FieldType.long) 1 := ⟨⟨q_774, q_775, q_1, q_776⟩, ⟨by decide, by decide, by decide +kernel⟩⟩
theorem k_CM_count : x_cal y_CM_count b_CM_count 2 (Option.some Jvm.ClassFile.FieldType.int) 1 := ⟨⟨q_216, q_217, q_1, q_218⟩, ⟨by decide, by decide, by decide +kernel⟩⟩
theorem k_CM_isInMap : x_calS y_CM_isInMap b_CM_isInMap 2 (Option.some Jvm.ClassFile.FieldType.boolean) 2 := ⟨⟨q_728, q_1, q_729⟩, ⟨by decide, by decide, by decide +kernel⟩⟩
theorem k_Md_thrown : x_cal y_Md_thrown b_Md_thrown 1 (Option.some Jvm.ClassFile.FieldType.int) 0 := ⟨⟨q_871, q_872, q_9, q_873⟩, ⟨by decide, by decide, by decide +kernel⟩⟩
theorem k_Md_in : x_calS y_Md_in b_Md_in 6 (Option.some Jvm.ClassFile.FieldType.boolean) 3 := ⟨⟨q_884, q_9, q_885⟩, ⟨by decide, by decide, by decide +kernel⟩⟩
theorem k_Md_bad : x_cal y_Md_bad b_Md_bad 2 (Option.some Jvm.ClassFile.FieldType.boolean) 1 := ⟨⟨q_890, q_s40, q_9, q_891⟩, ⟨by decide, by decide, by decide +kernel⟩⟩
theorem k_Md_fits : x_cal y_Md_fits b_Md_fits 5 (Option.some Jvm.ClassFile.FieldType.boolean) 4 := ⟨⟨q_880, q_s39, q_9, q_881⟩, ⟨by decide, by decide, by decide +kernel⟩⟩
theorem k_Md_set : x_cal y_Md_set b_Md_set 7 (Option.none : Option Jvm.ClassFile.FieldType) 6 := ⟨⟨q_894, q_s41, q_9, q_895⟩, ⟨by decide, by decide, by decide +kernel⟩⟩
theorem k_Md_add : x_cal y_Md_add b_Md_add 6 (Option.some Jvm.ClassFile.FieldType.int) 5 := ⟨⟨q_875, q_876, q_9, q_877⟩, ⟨by decide, by decide, by decide +kernel⟩⟩
theorem k_Md_put : x_cal y_Md_put b_Md_put 7 (Option.none : Option Jvm.ClassFile.FieldType) 6 := ⟨⟨q_897, q_898, q_9, q_899⟩, ⟨by decide, by decide, by decide +kernel⟩⟩
theorem k_Md_cut : x_cal y_Md_cut b_Md_cut 2 (Option.none : Option Jvm.ClassFile.FieldType) 1 := ⟨⟨q_901, q_902, q_9, q_903⟩, ⟨by decide, by decide, by decide +kernel⟩⟩
theorem k_Md_know : x_cal y_Md_know b_Md_know 7 (Option.none : Option Jvm.ClassFile.FieldType) 4 := ⟨⟨q_910, q_s42, q_9, q_911⟩, ⟨by decide, by decide, by decide +kernel⟩⟩
theorem k_Md_copy : x_cal y_Md_copy b_Md_copy 3 (Option.none : Option Jvm.ClassFile.FieldType) 2 := ⟨⟨q_974, q_s55, q_9, q_975⟩, ⟨by decide, by decide, by decide +kernel⟩⟩
theorem k_Md_anything : x_cal y_Md_anything b_Md_anything 2 (Option.none : Option Jvm.ClassFile.FieldType) 1 := ⟨⟨q_914, q_s43, q_9, q_915⟩, ⟨by decide, by decide, by decide +kernel⟩⟩
theorem k_Md_overflows : x_calS y_Md_overflows b_Md_overflows 6 (Option.some Jvm.ClassFile.FieldType.boolean) 2 := ⟨⟨q_959, q_9, q_960⟩, ⟨by decide, by decide, by decide +kernel⟩⟩
theorem k_Md_usesD : x_cal y_Md_usesD b_Md_usesD 2 (Option.some Jvm.ClassFile.FieldType.boolean) 1 := ⟨⟨q_930, q_s46, q_9, q_931⟩, ⟨by decide, by decide, by decide +kernel⟩⟩
theorem k_Md_usesS : x_cal y_Md_usesS b_Md_usesS 2 (Option.some Jvm.ClassFile.FieldType.boolean) 1 := ⟨⟨q_934, q_s47, q_9, q_935⟩, ⟨by decide, by decide, by decide +kernel⟩⟩
theorem k_Md_place : x_cal y_Md_place b_Md_place 2 (Option.some Jvm.ClassFile.FieldType.boolean) 1 := ⟨⟨q_948, q_s50, q_9, q_949⟩, ⟨by decide, by decide, by decide +kernel⟩⟩
theorem k_Md_empties : x_cal y_Md_empties b_Md_empties 3 (Option.some Jvm.ClassFile.FieldType.boolean) 1 := ⟨⟨q_926, q_s45, q_9, q_927⟩, ⟨by decide, by decide, by decide +kernel⟩⟩
theorem k_Md_wrongNumber : x_cal y_Md_wrongNumber b_Md_wrongNumber 3 (Option.some Jvm.ClassFile.FieldType.boolean) 1 := ⟨⟨q_938, q_s48, q_9, q_939⟩, ⟨by decide, by decide, by decide +kernel⟩⟩
theorem k_Md_wrongKind : x_cal y_Md_wrongKind b_Md_wrongKind 5 (Option.some Jvm.ClassFile.FieldType.boolean) 1 := ⟨⟨q_944, q_s49, q_9, q_945⟩, ⟨by decide, by decide, by decide +kernel⟩⟩
theorem k_Md_wrongPlace : x_cal y_Md_wrongPlace b_Md_wrongPlace 9 (Option.some Jvm.ClassFile.FieldType.boolean) 1 := ⟨⟨q_956, q_s52, q_9, q_957⟩, ⟨by decide, by decide, by decide +kernel⟩⟩
theorem k_Md_wrongCells : x_cal y_Md_wrongCells b_Md_wrongCells 6 (Option.some Jvm.ClassFile.FieldType.boolean) 1 := ⟨⟨q_965, q_s53, q_9, q_966⟩, ⟨by decide, by decide, by decide +kernel⟩⟩
theorem k_Md_wrongStore : x_cal y_Md_wrongStore b_Md_wrongStore 5 (Option.some Jvm.ClassFile.FieldType.boolean) 1 := ⟨⟨q_952, q_s51, q_9, q_953⟩, ⟨by decide, by decide, by decide +kernel⟩⟩
theorem k_Md_reasonAt : x_cal y_Md_reasonAt b_Md_reasonAt 2 (Option.some Jvm.ClassFile.FieldType.int) 1 := ⟨⟨q_920, q_s44, q_9, q_921⟩, ⟨by decide, by decide, by decide +kernel⟩⟩
theorem k_Md_push : x_cal y_Md_push b_Md_push 3 (Option.none : Option Jvm.ClassFile.FieldType) 1 := ⟨⟨q_1005, q_s62, q_9, q_1006⟩, ⟨by decide, by decide, by decide +kernel⟩⟩
theorem k_Md_pop : x_cal y_Md_pop b_Md_pop 2 (Option.none : Option Jvm.ClassFile.FieldType) 0 := ⟨⟨q_1009, q_s63, q_9, q_1010⟩, ⟨by decide, by decide, by decide +kernel⟩⟩
theorem k_Md_move : x_cal y_Md_move b_Md_move 6 (Option.none : Option Jvm.ClassFile.FieldType) 3 := ⟨⟨q_978, q_s56, q_9, q_979⟩, ⟨by decide, by decide, by decide +kernel⟩⟩
theorem k_Md_spread : x_cal y_Md_spread b_Md_spread 6 (Option.none : Option Jvm.ClassFile.FieldType) 3 := ⟨⟨q_992, q_s59, q_9, q_993⟩, ⟨by decide, by decide, by decide +kernel⟩⟩
theorem k_Md_subtract : x_cal y_Md_subtract b_Md_subtract 7 (Option.none : Option Jvm.ClassFile.FieldType) 2 := ⟨⟨q_982, q_s57, q_9, q_983⟩, ⟨by decide, by decide, by decide +kernel⟩⟩
theorem k_Md_and : x_cal y_Md_and b_Md_and 4 (Option.none : Option Jvm.ClassFile.FieldType) 2 := ⟨⟨q_996, q_s60, q_9, q_997⟩, ⟨by decide, by decide, by decide +kernel⟩⟩
theorem k_Md_arithmetic : x_cal y_Md_arithmetic b_Md_arithmetic 9 (Option.none : Option Jvm.ClassFile.FieldType) 3 := ⟨⟨q_986, q_s58, q_9, q_987⟩, ⟨by decide, by decide, by decide +kernel⟩⟩
theorem k_Md_load : x_cal y_Md_load b_Md_load 11 (Option.none : Option Jvm.ClassFile.FieldType) 1 := ⟨⟨q_1013, q_s64, q_9, q_1014⟩, ⟨by decide, by decide, by decide +kernel⟩⟩
theorem k_Md_store : x_cal y_Md_store b_Md_store 7 (Option.none : Option Jvm.ClassFile.FieldType) 1 := ⟨⟨q_1017, q_s65, q_9, q_1018⟩, ⟨by decide, by decide, by decide +kernel⟩⟩
theorem k_Md_callGuess : x_cal y_Md_callGuess b_Md_callGuess 3 (Option.none : Option Jvm.ClassFile.FieldType) 1 := ⟨⟨q_1021, q_s66, q_9, q_1022⟩, ⟨by decide, by decide, by decide +kernel⟩⟩
theorem k_Md_branch : x_cal y_Md_branch b_Md_branch 18 (Option.none : Option Jvm.ClassFile.FieldType) 1 := ⟨⟨q_1001, q_s61, q_9, q_1002⟩, ⟨by decide, by decide, by decide +kernel⟩⟩
theorem k_Md_leave : x_cal y_Md_leave b_Md_leave 1 (Option.none : Option Jvm.ClassFile.FieldType) 0 := ⟨⟨q_1026, q_s67, q_9, q_1027⟩, ⟨by decide, by decide, by decide +kernel⟩⟩
theorem k_Md_goOn : x_cal y_Md_goOn b_Md_goOn 4 (Option.some Jvm.ClassFile.FieldType.boolean) 1 := ⟨⟨q_970, q_s54, q_9, q_971⟩, ⟨by decide, by decide, by decide +kernel⟩⟩
theorem k_Md_check : x_cal y_Md_check b_Md_check 3 (Option.some Jvm.ClassFile.FieldType.int) 0 := ⟨⟨q_905, q_906, q_9, q_907⟩, ⟨by decide, by decide, by decide +kernel⟩⟩
theorem k_Md_above : x_cal y_Md_above b_Md_above 5 (Option.some Jvm.ClassFile.FieldType.boolean) 1 := ⟨⟨q_1038, q_s69, q_9, q_1039⟩, ⟨by decide, by decide, by decide +kernel⟩⟩
theorem k_Md_compute : x_cal y_Md_compute b_Md_compute 6 (Option.none : Option Jvm.ClassFile.FieldType) 1 := ⟨⟨q_1034, q_s68, q_9, q_1035⟩, ⟨by decide, by decide, by decide +kernel⟩⟩
theorem k_Md_transfer : x_cal y_Md_transfer b_Md_transfer 6 (Option.none : Option Jvm.ClassFile.FieldType) 2 := ⟨⟨q_1042, q_s70, q_9, q_1043⟩, ⟨by decide, by decide, by decide +kernel⟩⟩
theorem k_Md_callNow : x_cal y_Md_callNow b_Md_callNow 7 (Option.none : Option Jvm.ClassFile.FieldType) 1 := ⟨⟨q_1046, q_s71, q_9, q_1047⟩, ⟨by decide, by decide, by decide +kernel⟩⟩
theorem k_Md_run : x_cal y_Md_run b_Md_run 6 (Option.some Jvm.ClassFile.FieldType.long) 1 := ⟨⟨q_1029, q_1030, q_9, q_1031⟩, ⟨by decide, by decide, by decide +kernel⟩⟩
theorem k_Md_row : x_cal y_Md_row b_Md_row 3 (Option.some Jvm.ClassFile.FieldType.long) 2 := ⟨⟨q_1050, q_1051, q_9, q_1052⟩, ⟨by decide, by decide, by decide +kernel⟩⟩
theorem k_Md_fill : x_cal y_Md_fill b_Md_fill 5 (Option.none : Option Jvm.ClassFile.FieldType) 3 := ⟨⟨q_1054, q_1055, q_9, q_1056⟩, ⟨by decide, by decide, by decide +kernel⟩⟩
theorem k_Md_outcome : x_cal y_Md_outcome b_Md_outcome 2 (Option.some Jvm.ClassFile.FieldType.long) 1 := ⟨⟨q_1058, q_1059, q_9, q_1060⟩, ⟨by decide, by decide, by decide +kernel⟩⟩
theorem k_Md_count : x_cal y_Md_count b_Md_count 2 (Option.some Jvm.ClassFile.FieldType.int) 1 := ⟨⟨q_1062, q_1063, q_9, q_1064⟩, ⟨by decide, by decide, by decide +kernel⟩⟩
theorem k_Ck_looked : x_cal y_Ck_looked b_Ck_looked 1 (Option.some Jvm.ClassFile.FieldType.int) 0 := ⟨⟨q_232, q_233, q_4, q_234⟩, ⟨by decide, by decide, by decide +kernel⟩⟩
theorem k_Ck_reason : x_cal y_Ck_reason b_Ck_reason 1 (Option.some Jvm.ClassFile.FieldType.int) 0 := ⟨⟨q_224, q_225, q_4, q_226⟩, ⟨by decide, by decide, by decide +kernel⟩⟩
theorem k_Ck_rejectedAt : x_cal y_Ck_rejectedAt b_Ck_rejectedAt 1 (Option.some Jvm.ClassFile.FieldType.int) 0 := ⟨⟨q_228, q_229, q_4, q_230⟩, ⟨by decide, by decide, by decide +kernel⟩⟩
theorem k_Ck_least : x_cal y_Ck_least b_Ck_least 1 (Option.some Jvm.ClassFile.FieldType.long) 0 := ⟨⟨q_782, q_783, q_4, q_784⟩, ⟨by decide, by decide, by decide +kernel⟩⟩
theorem k_Ck_greatest : x_cal y_Ck_greatest b_Ck_greatest 1 (Option.some Jvm.ClassFile.FieldType.long) 0 := ⟨⟨q_778, q_779, q_4, q_780⟩, ⟨by decide, by decide, by decide +kernel⟩⟩
theorem k_Ck_goDownAllWays : x_cal y_Ck_goDownAllWays b_Ck_goDownAllWays 3 (Option.some Jvm.ClassFile.FieldType.int) 0 := ⟨⟨q_400, q_401, q_4, q_402⟩, ⟨by decide, by decide, by decide +kernel⟩⟩
theorem k_Ck_begin : x_cal y_Ck_begin b_Ck_begin 2 (Option.none : Option Jvm.ClassFile.FieldType) 0 := ⟨⟨q_405, q_s1, q_4, q_406⟩, ⟨by decide, by decide, by decide +kernel⟩⟩
theorem k_Ck_lookAt : x_cal y_Ck_lookAt b_Ck_lookAt 4 (Option.some Jvm.ClassFile.FieldType.int) 1 := ⟨⟨q_427, q_s2, q_4, q_428⟩, ⟨by decide, by decide, by decide +kernel⟩⟩
theorem k_Ck_reject : x_cal y_Ck_reject b_Ck_reject 3 (Option.none : Option Jvm.ClassFile.FieldType) 2 := ⟨⟨q_539, q_s17, q_4, q_540⟩, ⟨by decide, by decide, by decide +kernel⟩⟩
theorem k_Ck_growOutcomes : x_cal y_Ck_growOutcomes b_Ck_growOutcomes 5 (Option.none : Option Jvm.ClassFile.FieldType) 2 := ⟨⟨q_545, q_s18, q_4, q_546⟩, ⟨by decide, by decide, by decide +kernel⟩⟩
theorem k_Ck_fork : x_cal y_Ck_fork b_Ck_fork 4 (Option.some Jvm.ClassFile.FieldType.int) 2 := ⟨⟨q_567, q_s20, q_4, q_568⟩, ⟨by decide, by decide, by decide +kernel⟩⟩
theorem k_Ck_takeUpLatest : x_cal y_Ck_takeUpLatest b_Ck_takeUpLatest 3 (Option.some Jvm.ClassFile.FieldType.int) 0 := ⟨⟨q_555, q_s19, q_4, q_556⟩, ⟨by decide, by decide, by decide +kernel⟩⟩
theorem k_Ef_follow : x_cal y_Ef_follow b_Ef_follow 3 (Option.none : Option Jvm.ClassFile.FieldType) 1 := ⟨⟨q_595, q_596, q_7, q_597⟩, ⟨by decide, by decide, by decide +kernel⟩⟩
theorem k_Ef_move : x_cal y_Ef_move b_Ef_move 10 (Option.none : Option Jvm.ClassFile.FieldType) 3 := ⟨⟨q_605, q_s21, q_7, q_606⟩, ⟨by decide, by decide, by decide +kernel⟩⟩
theorem k_Ef_sumWraps : x_calS y_Ef_sumWraps b_Ef_sumWraps 6 (Option.some Jvm.ClassFile.FieldType.boolean) 3 := ⟨⟨q_610, q_7, q_611⟩, ⟨by decide, by decide, by decide +kernel⟩⟩
theorem k_Ef_subtract : x_cal y_Ef_subtract b_Ef_subtract 10 (Option.none : Option Jvm.ClassFile.FieldType) 3 := ⟨⟨q_617, q_s22, q_7, q_618⟩, ⟨by decide, by decide, by decide +kernel⟩⟩
theorem k_Ef_differenceWraps : x_calS y_Ef_differenceWraps b_Ef_differenceWraps 6 (Option.some Jvm.ClassFile.FieldType.boolean) 3 := ⟨⟨q_620, q_7, q_621⟩, ⟨by decide, by decide, by decide +kernel⟩⟩
theorem k_Ef_multiply : x_cal y_Ef_multiply b_Ef_multiply 4 (Option.none : Option Jvm.ClassFile.FieldType) 2 := ⟨⟨q_624, q_s23, q_7, q_625⟩, ⟨by decide, by decide, by decide +kernel⟩⟩
theorem k_Ef_isFactor : x_calS y_Ef_isFactor b_Ef_isFactor 2 (Option.some Jvm.ClassFile.FieldType.boolean) 1 := ⟨⟨q_627, q_7, q_628⟩, ⟨by decide, by decide, by decide +kernel⟩⟩
theorem k_Ef_mask : x_cal y_Ef_mask b_Ef_mask 4 (Option.none : Option Jvm.ClassFile.FieldType) 2 := ⟨⟨q_639, q_s24, q_7, q_640⟩, ⟨by decide, by decide, by decide +kernel⟩⟩
theorem k_Ef_divide : x_cal y_Ef_divide b_Ef_divide 4 (Option.none : Option Jvm.ClassFile.FieldType) 2 := ⟨⟨q_644, q_s25, q_7, q_645⟩, ⟨by decide, by decide, by decide +kernel⟩⟩
theorem k_Ef_negate : x_cal y_Ef_negate b_Ef_negate 2 (Option.none : Option Jvm.ClassFile.FieldType) 1 := ⟨⟨q_650, q_s26, q_7, q_651⟩, ⟨by decide, by decide, by decide +kernel⟩⟩
theorem k_Ef_load : x_cal y_Ef_load b_Ef_load 8 (Option.none : Option Jvm.ClassFile.FieldType) 1 := ⟨⟨q_654, q_s27, q_7, q_655⟩, ⟨by decide, by decide, by decide +kernel⟩⟩
theorem k_Ef_store : x_cal y_Ef_store b_Ef_store 8 (Option.none : Option Jvm.ClassFile.FieldType) 1 := ⟨⟨q_662, q_s28, q_7, q_663⟩, ⟨by decide, by decide, by decide +kernel⟩⟩
theorem k_Ef_call : x_cal y_Ef_call b_Ef_call 2 (Option.none : Option Jvm.ClassFile.FieldType) 1 := ⟨⟨q_667, q_s29, q_7, q_668⟩, ⟨by decide, by decide, by decide +kernel⟩⟩
theorem k_Fk_leadsToTarget : x_calS y_Fk_leadsToTarget b_Fk_leadsToTarget 2 (Option.some Jvm.ClassFile.FieldType.boolean) 2 := ⟨⟨q_570, q_18, q_571⟩, ⟨by decide, by decide, by decide +kernel⟩⟩
theorem k_Fk_leadsOn : x_calS y_Fk_leadsOn b_Fk_leadsOn 2 (Option.some Jvm.ClassFile.FieldType.boolean) 2 := ⟨⟨q_579, q_18, q_580⟩, ⟨by decide, by decide, by decide +kernel⟩⟩
theorem k_Fk_goToTarget : x_calS y_Fk_goToTarget b_Fk_goToTarget 9 (Option.none : Option Jvm.ClassFile.FieldType) 2 := ⟨⟨q_582, q_18, q_583⟩, ⟨by decide, by decide, by decide +kernel⟩⟩
theorem k_Fk_goOn : x_calS y_Fk_goOn b_Fk_goOn 9 (Option.none : Option Jvm.ClassFile.FieldType) 2 := ⟨⟨q_591, q_18, q_592⟩, ⟨by decide, by decide, by decide +kernel⟩⟩
theorem k_Fk_isMaybe : x_calS y_Fk_isMaybe b_Fk_isMaybe 2 (Option.some Jvm.ClassFile.FieldType.boolean) 2 := ⟨⟨q_573, q_18, q_574⟩, ⟨by decide, by decide, by decide +kernel⟩⟩
theorem k_Gs_begin : x_cal y_Gs_begin b_Gs_begin 2 (Option.none : Option Jvm.ClassFile.FieldType) 0 := ⟨⟨q_408, q_409, q_5, q_410⟩, ⟨by decide, by decide, by decide +kernel⟩⟩
theorem k_Gs_become : x_cal y_Gs_become b_Gs_become 2 (Option.none : Option Jvm.ClassFile.FieldType) 1 := ⟨⟨q_558, q_559, q_5, q_560⟩, ⟨by decide, by decide, by decide +kernel⟩⟩
theorem k_Gs_kind : x_cal y_Gs_kind b_Gs_kind 2 (Option.some Jvm.ClassFile.FieldType.int) 1 := ⟨⟨q_483, q_484, q_5, q_485⟩, ⟨by decide, by decide, by decide +kernel⟩⟩
theorem k_Gs_lo : x_cal y_Gs_lo b_Gs_lo 2 (Option.some Jvm.ClassFile.FieldType.long) 1 := ⟨⟨q_495, q_496, q_5, q_497⟩, ⟨by decide, by decide, by decide +kernel⟩⟩
theorem k_Gs_hi : x_cal y_Gs_hi b_Gs_hi 2 (Option.some Jvm.ClassFile.FieldType.long) 1 := ⟨⟨q_499, q_500, q_5, q_501⟩, ⟨by decide, by decide, by decide +kernel⟩⟩
theorem k_Gs_isEmpty : x_cal y_Gs_isEmpty b_Gs_isEmpty 2 (Option.some Jvm.ClassFile.FieldType.boolean) 1 := ⟨⟨q_448, q_449, q_5, q_450⟩, ⟨by decide, by decide, by decide +kernel⟩⟩
theorem k_Gs_isRange : x_cal y_Gs_isRange b_Gs_isRange 2 (Option.some Jvm.ClassFile.FieldType.boolean) 1 := ⟨⟨q_471, q_472, q_5, q_473⟩, ⟨by decide, by decide, by decide +kernel⟩⟩
theorem k_Gs_isPlace : x_cal y_Gs_isPlace b_Gs_isPlace 2 (Option.some Jvm.ClassFile.FieldType.boolean) 1 := ⟨⟨q_475, q_476, q_5, q_477⟩, ⟨by decide, by decide, by decide +kernel⟩⟩
theorem k_Gs_set : x_cal y_Gs_set b_Gs_set 7 (Option.none : Option Jvm.ClassFile.FieldType) 4 := ⟨⟨q_416, q_417, q_5, q_418⟩, ⟨by decide, by decide, by decide +kernel⟩⟩
theorem k_Gs_setRange : x_cal y_Gs_setRange b_Gs_setRange 6 (Option.none : Option Jvm.ClassFile.FieldType) 3 := ⟨⟨q_585, q_586, q_5, q_587⟩, ⟨by decide, by decide, by decide +kernel⟩⟩
theorem k_Gs_setAny : x_cal y_Gs_setAny b_Gs_setAny 2 (Option.none : Option Jvm.ClassFile.FieldType) 1 := ⟨⟨q_420, q_421, q_5, q_422⟩, ⟨by decide, by decide, by decide +kernel⟩⟩
theorem k_Gs_clear : x_cal y_Gs_clear b_Gs_clear 2 (Option.none : Option Jvm.ClassFile.FieldType) 1 := ⟨⟨q_412, q_413, q_5, q_414⟩, ⟨by decide, by decide, by decide +kernel⟩⟩
theorem k_Gs_copy : x_cal y_Gs_copy b_Gs_copy 3 (Option.none : Option Jvm.ClassFile.FieldType) 2 := ⟨⟨q_600, q_601, q_5, q_602⟩, ⟨by decide, by decide, by decide +kernel⟩⟩
theorem k_Gs_widen : x_cal y_Gs_widen b_Gs_widen 6 (Option.none : Option Jvm.ClassFile.FieldType) 3 := ⟨⟨q_657, q_658, q_5, q_659⟩, ⟨by decide, by decide, by decide +kernel⟩⟩
theorem k_Gs_setBetween : x_cal y_Gs_setBetween b_Gs_setBetween 6 (Option.none : Option Jvm.ClassFile.FieldType) 3 := ⟨⟨q_632, q_633, q_5, q_634⟩, ⟨by decide, by decide, by decide +kernel⟩⟩
theorem k_Jg_reasonAgainst : x_cal y_Jg_reasonAgainst b_Jg_reasonAgainst 3 (Option.some Jvm.ClassFile.FieldType.int) 2 := ⟨⟨q_431, q_432, q_6, q_433⟩, ⟨by decide, by decide, by decide +kernel⟩⟩
theorem k_Jg_lacksTarget : x_cal y_Jg_lacksTarget b_Jg_lacksTarget 3 (Option.some Jvm.ClassFile.FieldType.boolean) 2 := ⟨⟨q_436, q_s3, q_6, q_437⟩, ⟨by decide, by decide, by decide +kernel⟩⟩
theorem k_Jg_usesEmpty : x_cal y_Jg_usesEmpty b_Jg_usesEmpty 2 (Option.some Jvm.ClassFile.FieldType.boolean) 1 := ⟨⟨q_445, q_s4, q_6, q_446⟩, ⟨by decide, by decide, by decide +kernel⟩⟩
theorem k_Jg_hasBadNumber : x_calS y_Jg_hasBadNumber b_Jg_hasBadNumber 1 (Option.some Jvm.ClassFile.FieldType.boolean) 1 := ⟨⟨q_460, q_6, q_461⟩, ⟨by decide, by decide, by decide +kernel⟩⟩
theorem k_Jg_hasWrongKind : x_cal y_Jg_hasWrongKind b_Jg_hasWrongKind 2 (Option.some Jvm.ClassFile.FieldType.boolean) 1 := ⟨⟨q_464, q_s5, q_6, q_465⟩, ⟨by decide, by decide, by decide +kernel⟩⟩
theorem k_Jg_isRangeOrPlace : x_cal y_Jg_isRangeOrPlace b_Jg_isRangeOrPlace 2 (Option.some Jvm.ClassFile.FieldType.boolean) 1 := ⟨⟨q_468, q_s6, q_6, q_469⟩, ⟨by decide, by decide, by decide +kernel⟩⟩
theorem k_Jg_isMaybeMissing : x_cal y_Jg_isMaybeMissing b_Jg_isMaybeMissing 2 (Option.some Jvm.ClassFile.FieldType.boolean) 1 := ⟨⟨q_480, q_s7, q_6, q_481⟩, ⟨by decide, by decide, by decide +kernel⟩⟩
theorem k_Jg_callsWithWrongKind : x_cal y_Jg_callsWithWrongKind b_Jg_callsWithWrongKind 2 (Option.some Jvm.ClassFile.FieldType.boolean) 1 := ⟨⟨q_504, q_s10, q_6, q_505⟩, ⟨by decide, by decide, by decide +kernel⟩⟩
theorem k_Jg_storesWrongKind : x_cal y_Jg_storesWrongKind b_Jg_storesWrongKind 2 (Option.some Jvm.ClassFile.FieldType.boolean) 1 := ⟨⟨q_488, q_s8, q_6, q_489⟩, ⟨by decide, by decide, by decide +kernel⟩⟩
theorem k_Jg_isOneCellOfFrame : x_cal y_Jg_isOneCellOfFrame b_Jg_isOneCellOfFrame 2 (Option.some Jvm.ClassFile.FieldType.boolean) 1 := ⟨⟨q_492, q_s9, q_6, q_493⟩, ⟨by decide, by decide, by decide +kernel⟩⟩
theorem k_Jg_storesOverNoRange : x_cal y_Jg_storesOverNoRange b_Jg_storesOverNoRange 8 (Option.some Jvm.ClassFile.FieldType.boolean) 1 := ⟨⟨q_508, q_s11, q_6, q_509⟩, ⟨by decide, by decide, by decide +kernel⟩⟩
theorem k_Jg_goesOutside : x_cal y_Jg_goesOutside b_Jg_goesOutside 2 (Option.some Jvm.ClassFile.FieldType.boolean) 1 := ⟨⟨q_512, q_s12, q_6, q_513⟩, ⟨by decide, by decide, by decide +kernel⟩⟩
theorem k_Jg_movesTooFar : x_cal y_Jg_movesTooFar b_Jg_movesTooFar 6 (Option.some Jvm.ClassFile.FieldType.boolean) 3 := ⟨⟨q_516, q_s13, q_6, q_517⟩, ⟨by decide, by decide, by decide +kernel⟩⟩
theorem k_Jg_missesCells : x_cal y_Jg_missesCells b_Jg_missesCells 5 (Option.some Jvm.ClassFile.FieldType.boolean) 2 := ⟨⟨q_522, q_s14, q_6, q_523⟩, ⟨by decide, by decide, by decide +kernel⟩⟩
theorem k_Jg_loadsUnfitCell : x_cal y_Jg_loadsUnfitCell b_Jg_loadsUnfitCell 9 (Option.some Jvm.ClassFile.FieldType.boolean) 1 := ⟨⟨q_526, q_s15, q_6, q_527⟩, ⟨by decide, by decide, by decide +kernel⟩⟩
theorem k_Jg_findsNoRow : x_cal y_Jg_findsNoRow b_Jg_findsNoRow 2 (Option.some Jvm.ClassFile.FieldType.boolean) 1 := ⟨⟨q_530, q_s16, q_6, q_531⟩, ⟨by decide, by decide, by decide +kernel⟩⟩
theorem k_Pg_allows : x_calS y_Pg_allows b_Pg_allows 4 (Option.some Jvm.ClassFile.FieldType.boolean) 4 := ⟨⟨q_253, q_2, q_254⟩, ⟨by decide, by decide, by decide +kernel⟩⟩
theorem k_Pg_isRegister : x_calS y_Pg_isRegister b_Pg_isRegister 1 (Option.some Jvm.ClassFile.FieldType.boolean) 1 := ⟨⟨q_256, q_2, q_257⟩, ⟨by decide, by decide, by decide +kernel⟩⟩
theorem k_Pg_size : x_cal y_Pg_size b_Pg_size 1 (Option.some Jvm.ClassFile.FieldType.int) 0 := ⟨⟨q_220, q_221, q_2, q_222⟩, ⟨by decide, by decide, by decide +kernel⟩⟩
theorem k_Pg_grow : x_cal y_Pg_grow b_Pg_grow 1 (Option.some Jvm.ClassFile.FieldType.int) 0 := ⟨⟨q_344, q_345, q_2, q_346⟩, ⟨by decide, by decide, by decide +kernel⟩⟩
theorem k_Pg_shorten : x_cal y_Pg_shorten b_Pg_shorten 2 (Option.none : Option Jvm.ClassFile.FieldType) 1 := ⟨⟨q_388, q_389, q_2, q_390⟩, ⟨by decide, by decide, by decide +kernel⟩⟩
theorem k_Pg_write : x_cal y_Pg_write b_Pg_write 8 (Option.none : Option Jvm.ClassFile.FieldType) 6 := ⟨⟨q_348, q_349, q_2, q_350⟩, ⟨by decide, by decide, by decide +kernel⟩⟩
theorem k_Pg_stepAt : x_cal y_Pg_stepAt b_Pg_stepAt 2 (Option.some (Jvm.ClassFile.FieldType.object "CheckedMachine$Step")) 1 := ⟨⟨q_352, q_353, q_2, q_354⟩, ⟨by decide, by decide, by decide +kernel⟩⟩
theorem k_Rn_stepsRun : x_cal y_Rn_stepsRun b_Rn_stepsRun 1 (Option.some Jvm.ClassFile.FieldType.int) 0 := ⟨⟨q_236, q_237, q_8, q_238⟩, ⟨by decide, by decide, by decide +kernel⟩⟩
theorem k_Rn_countCalls : x_cal y_Rn_countCalls b_Rn_countCalls 1 (Option.some Jvm.ClassFile.FieldType.int) 0 := ⟨⟨q_240, q_241, q_8, q_242⟩, ⟨by decide, by decide, by decide +kernel⟩⟩
theorem k_Rn_mapCell : x_cal y_Rn_mapCell b_Rn_mapCell 3 (Option.some Jvm.ClassFile.FieldType.long) 2 := ⟨⟨q_724, q_725, q_8, q_726⟩, ⟨by decide, by decide, by decide +kernel⟩⟩
theorem k_Rn_setMapCell : x_cal y_Rn_setMapCell b_Rn_setMapCell 5 (Option.none : Option Jvm.ClassFile.FieldType) 3 := ⟨⟨q_736, q_737, q_8, q_738⟩, ⟨by decide, by decide, by decide +kernel⟩⟩
theorem k_Rn_runThrough : x_cal y_Rn_runThrough b_Rn_runThrough 5 (Option.some Jvm.ClassFile.FieldType.long) 1 := ⟨⟨q_698, q_699, q_8, q_700⟩, ⟨by decide, by decide, by decide +kernel⟩⟩
theorem k_Rn_set : x_cal y_Rn_set b_Rn_set 5 (Option.none : Option Jvm.ClassFile.FieldType) 3 := ⟨⟨q_703, q_s30, q_8, q_704⟩, ⟨by decide, by decide, by decide +kernel⟩⟩
theorem k_Rn_runStep : x_cal y_Rn_runStep b_Rn_runStep 3 (Option.some Jvm.ClassFile.FieldType.int) 1 := ⟨⟨q_707, q_s31, q_8, q_708⟩, ⟨by decide, by decide, by decide +kernel⟩⟩
theorem k_Rn_jumps : x_cal y_Rn_jumps b_Rn_jumps 2 (Option.some Jvm.ClassFile.FieldType.boolean) 1 := ⟨⟨q_713, q_s32, q_8, q_714⟩, ⟨by decide, by decide, by decide +kernel⟩⟩
theorem k_Rn_reckon : x_cal y_Rn_reckon b_Rn_reckon 5 (Option.none : Option Jvm.ClassFile.FieldType) 1 := ⟨⟨q_750, q_s38, q_8, q_751⟩, ⟨by decide, by decide, by decide +kernel⟩⟩
theorem k_Rn_reachOut : x_cal y_Rn_reachOut b_Rn_reachOut 2 (Option.none : Option Jvm.ClassFile.FieldType) 1 := ⟨⟨q_717, q_s33, q_8, q_718⟩, ⟨by decide, by decide, by decide +kernel⟩⟩
theorem k_Rn_load : x_cal y_Rn_load b_Rn_load 6 (Option.none : Option Jvm.ClassFile.FieldType) 3 := ⟨⟨q_721, q_s34, q_8, q_722⟩, ⟨by decide, by decide, by decide +kernel⟩⟩
theorem k_Rn_store : x_cal y_Rn_store b_Rn_store 5 (Option.none : Option Jvm.ClassFile.FieldType) 3 := ⟨⟨q_733, q_s35, q_8, q_734⟩, ⟨by decide, by decide, by decide +kernel⟩⟩
theorem k_Rn_call : x_cal y_Rn_call b_Rn_call 2 (Option.none : Option Jvm.ClassFile.FieldType) 1 := ⟨⟨q_741, q_s36, q_8, q_742⟩, ⟨by decide, by decide, by decide +kernel⟩⟩
theorem k_Rn_findRow : x_cal y_Rn_findRow b_Rn_findRow 3 (Option.none : Option Jvm.ClassFile.FieldType) 1 := ⟨⟨q_745, q_s37, q_8, q_746⟩, ⟨by decide, by decide, by decide +kernel⟩⟩
theorem k_St_isCallOf : x_cal y_St_isCallOf b_St_isCallOf 2 (Option.some Jvm.ClassFile.FieldType.boolean) 1 := ⟨⟨q_533, q_534, q_3, q_535⟩, ⟨by decide, by decide, by decide +kernel⟩⟩
theorem k_St_mayJump : x_cal y_St_mayJump b_St_mayJump 1 (Option.some Jvm.ClassFile.FieldType.boolean) 0 := ⟨⟨q_439, q_440, q_3, q_441⟩, ⟨by decide, by decide, by decide +kernel⟩⟩
theorem k_St_usesD : x_cal y_St_usesD b_St_usesD 1 (Option.some Jvm.ClassFile.FieldType.boolean) 0 := ⟨⟨q_452, q_453, q_3, q_454⟩, ⟨by decide, by decide, by decide +kernel⟩⟩
theorem k_St_usesS : x_cal y_St_usesS b_St_usesS 1 (Option.some Jvm.ClassFile.FieldType.boolean) 0 := ⟨⟨q_456, q_457, q_3, q_458⟩, ⟨by decide, by decide, by decide +kernel⟩⟩
