/-! THE LAW: rows for any end, and its nine arms -/
section GB
variable {p : Program} {l : Launch} {e : Env} {R : Room} {s : State} {m : MethodId} {args : Array Value} {below : List Frame} {meth : Method} {c : Code} {cells slots : Nat} {Q : State → Prop}
variable {cc : ByteArray} {nL : Nat} {own : String} {Ts : List Cond} {κ : x_K} {f : x_I → va_E} {pc : Nat} {lv : List (Nat × Value)} {st : List Value}
theorem x_gif_eq {x : Int32} {off : Int} (tgt : Nat) (C : x_C p s m args c cc nL own Ts κ) (hd : decode cc pc = .ok (.ifCond .eq off, 3)) (ht : (pc : Int) + off = (tgt : Int)) (kt : x = 0 → x_V p l e R s m args below meth c κ nL cells slots Q f tgt lv st) (kf : ¬ x = 0 → x_V p l e R s m args below meth c κ nL cells slots Q f (pc + 3) lv st) : x_V p l e R s m args below meth c κ nL cells slots Q f pc lv (.int x :: st) :=
  fun H locs ls hP hS hl => lv_if_eq C.1.1 C.1.2.1 hd ht (fun h => kt h H locs ls hP hS hl) (fun h => kf h H locs ls hP hS hl)
theorem x_gif_ne {x : Int32} {off : Int} (tgt : Nat) (C : x_C p s m args c cc nL own Ts κ) (hd : decode cc pc = .ok (.ifCond .ne off, 3)) (ht : (pc : Int) + off = (tgt : Int)) (kf : x = 0 → x_V p l e R s m args below meth c κ nL cells slots Q f (pc + 3) lv st) (kt : ¬ x = 0 → x_V p l e R s m args below meth c κ nL cells slots Q f tgt lv st) : x_V p l e R s m args below meth c κ nL cells slots Q f pc lv (.int x :: st) :=
  fun H locs ls hP hS hl => lv_if_ne C.1.1 C.1.2.1 hd ht (fun h => kt h H locs ls hP hS hl) (fun h => kf h H locs ls hP hS hl)
theorem x_gicmp_eq {x y : Int32} {off : Int} (tgt : Nat) (C : x_C p s m args c cc nL own Ts κ) (hd : decode cc pc = .ok (.if_icmp .eq off, 3)) (ht : (pc : Int) + off = (tgt : Int)) (kt : x = y → x_V p l e R s m args below meth c κ nL cells slots Q f tgt lv st) (kf : ¬ x = y → x_V p l e R s m args below meth c κ nL cells slots Q f (pc + 3) lv st) : x_V p l e R s m args below meth c κ nL cells slots Q f pc lv (.int y :: .int x :: st) :=
  fun H locs ls hP hS hl => lv_icmp_eq C.1.1 C.1.2.1 hd ht (fun h => kt h H locs ls hP hS hl) (fun h => kf h H locs ls hP hS hl)
theorem x_glcmp_eq {x y : Int64} {off : Int} (tgt : Nat) (C : x_C p s m args c cc nL own Ts κ) (hd0 : decode cc pc = .ok (.lcmp, 1)) (hd : decode cc (pc + 1) = .ok (.ifCond .eq off, 3)) (ht : ((pc + 1 : Nat) : Int) + off = (tgt : Int)) (kt : x = y → x_V p l e R s m args below meth c κ nL cells slots Q f tgt lv st) (kf : ¬ x = y → x_V p l e R s m args below meth c κ nL cells slots Q f (pc + 1 + 3) lv st) : x_V p l e R s m args below meth c κ nL cells slots Q f pc lv (.long y :: .long x :: st) :=
  fun H locs ls hP hS hl => W.lcmp C.1.1 C.1.2.1 hd0 (lv_if_eq C.1.1 C.1.2.1 hd ht (fun h => kt ((lg_cmp_eq x y).mp h) H locs ls hP hS hl) (fun h => kf (fun h9 => h ((lg_cmp_eq x y).mpr h9)) H locs ls hP hS hl))
theorem x_sldE {b L : Nat} {xs : Nat → Int32} {i v : Int32} (C : x_C p s m args c cc nL own Ts κ) (hX : va_X b L xs s s.heap) (hbl : b < s.heap.size) (hbA : ¬ x_A κ s.heap.size b) (hin : vp_in i L) (hv : xs i.toNatClampNeg = v) (hd : decode cc pc = .ok (.iaload, 1))
    (kk : x_V p l e R s m args below meth c κ nL cells slots Q f (pc + 1) lv (.int v :: st)) : x_V p l e R s m args below meth c κ nL cells slots Q f pc lv (.int i :: .ref b :: st) :=
  x_sld C hX hbl hbA hin hd (by rw [hv]; exact kk)
end GB

theorem k_Lw_add : x_calH y_Lw_add b_Lw_add 8 (Option.some Jvm.ClassFile.FieldType.int) [(0, 16, 19, 13), (0, 16, 23, 15)] 7 := ⟨⟨q_244, q_0, q_245⟩, ⟨by decide, by decide, by decide +kernel⟩⟩
theorem k_Lw_put : x_calH y_Lw_put b_Lw_put 8 (Option.some Jvm.ClassFile.FieldType.int) [(0, 13, 16, 13), (0, 13, 20, 21)] 7 := ⟨⟨q_356, q_0, q_357⟩, ⟨by decide, by decide, by decide +kernel⟩⟩
theorem k_Lw_cut : x_calH y_Lw_cut b_Lw_cut 3 (Option.some Jvm.ClassFile.FieldType.int) [(0, 5, 8, 13)] 2 := ⟨⟨q_380, q_0, q_381⟩, ⟨by decide, by decide, by decide +kernel⟩⟩
theorem k_Lw_check : x_calH y_Lw_check b_Lw_check 3 (Option.some Jvm.ClassFile.FieldType.int) [(0, 8, 11, 13), (0, 8, 14, 31)] 2 := ⟨⟨q_392, q_0, q_393⟩, ⟨by decide, by decide, by decide +kernel⟩⟩
theorem k_Lw_run : x_calH y_Lw_run b_Lw_run 5 (Option.some Jvm.ClassFile.FieldType.int) [(0, 8, 11, 15)] 3 := ⟨⟨q_690, q_0, q_691⟩, ⟨by decide, by decide, by decide +kernel⟩⟩
theorem k_Lw_row : x_calH y_Lw_row b_Lw_row 5 (Option.some Jvm.ClassFile.FieldType.int) [(0, 9, 12, 13)] 4 := ⟨⟨q_753, q_0, q_754⟩, ⟨by decide, by decide, by decide +kernel⟩⟩
theorem k_Lw_fill : x_calH y_Lw_fill b_Lw_fill 6 (Option.some Jvm.ClassFile.FieldType.int) [(0, 7, 10, 13)] 4 := ⟨⟨q_763, q_0, q_764⟩, ⟨by decide, by decide, by decide +kernel⟩⟩
theorem k_Lw_outcome : x_calH y_Lw_outcome b_Lw_outcome 4 (Option.some Jvm.ClassFile.FieldType.int) [(0, 8, 11, 15)] 3 := ⟨⟨q_771, q_0, q_772⟩, ⟨by decide, by decide, by decide +kernel⟩⟩
def law_ok_0 (I : x_S → Prop) (stp : Nat → Nat → Int32) (psz : Int32) (gk : Nat → Nat → Int32) (gl : Nat → Nat → Int64) (gh : Nat → Nat → Int64) (opn : Nat → Int32) (cki : Nat → Int32) (ckl : Nat → Int64) (mp : Nat → Nat → Int64) (rk : Nat → Int32) (rv : Nat → Int64) (ri : Nat → Int32) (chk : Int32) (mo : Nat → Nat → Int32) (mi : Nat → Int32) (ml : Nat → Int64) (mk : Nat → Int32) (mlo : Nat → Int64) (mhi : Nat → Int64) (pk : Nat → Int32) (ps : Nat → Int32) (pl : Nat → Int64) (ph : Nat → Int64) (mm : Nat → Int64) (out : Nat → Int64) (a1 : Int32) (a2 : Int32) (a3 : Int32) (a4 : Int32) (a5 : Int32) : Prop :=
  (True ∧ x_let (s_Lw_add stp psz chk out a1 a2 a3 a4 a5) fun (r1, stp1, psz1, chk1, out1) => (k_ok_Md_add mo mi a1 a2 a3 a4 a5 ∧ x_let (s_Md_add mo mi a1 a2 a3 a4 a5) fun (r2, mo2, mi2) => (True ∧ x_let (s_Md_thrown mi2) fun r3 => (if r3 = r1 then (if r1 = 0 then (if (out1 (Int32.toNatClampNeg 0)) = (Int32.toInt64 r2) then I ((stp1, psz1, gk, gl, gh, opn, cki, ckl, mp, rk, rv, ri, chk1), (mo2, mi2, ml, mk, mlo, mhi, pk, ps, pl, ph, mm), out1) else False) else I ((stp1, psz1, gk, gl, gh, opn, cki, ckl, mp, rk, rv, ri, chk1), (mo2, mi2, ml, mk, mlo, mhi, pk, ps, pl, ph, mm), out1)) else False))))
set_option maxHeartbeats 4000000 in
set_option maxRecDepth 100000 in
theorem law_arm_0 {l : Launch} (htr : l.stackTraces = false) {D : va_G} {cA : Nat → ClassId} {ad : x_I → Nat} (ok : x_ok (x_k D cA ad)) {p : Program} {e : Env} {s : State} {m : MethodId} {args : Array Value} {below : List Frame} {meth : Method} {c : Code} {cells slots : Nat} {Q : State → Prop} {b L : Nat} {xs : Nat → Int32} {i : Int32} {w0 : Cond} (C : x_C p s m args c b_Lw_law 8 R_Lw (w0 :: x_Wd) (x_k D cA ad)) (hX : va_X b L xs s s.heap) (hbl : b < s.heap.size) (hbA : ¬ x_A (x_k D cA ad) s.heap.size b) (hg : x_G s) (hj : x_J s) (hap : ∀ q : Nat, q < s.heap.size → ¬ x_A (x_k D cA ad) s.heap.size q) (hrm : cells + 1 ≤ room_1.cells ∧ slots + 6 ≤ room_1.slots) (I : x_S → Prop) (stp : Nat → Nat → Int32) (psz : Int32) (gk : Nat → Nat → Int32) (gl : Nat → Nat → Int64) (gh : Nat → Nat → Int64) (opn : Nat → Int32) (cki : Nat → Int32) (ckl : Nat → Int64) (mp : Nat → Nat → Int64) (rk : Nat → Int32) (rv : Nat → Int64) (ri : Nat → Int32) (chk : Int32) (mo : Nat → Nat → Int32) (mi : Nat → Int32) (ml : Nat → Int64) (mk : Nat → Int32) (mlo : Nat → Int64) (mhi : Nat → Int64) (pk : Nat → Int32) (ps : Nat → Int32) (pl : Nat → Int64) (ph : Nat → Int64) (mm : Nat → Int64) (out : Nat → Int64) (a1 : Int32) (a2 : Int32) (a3 : Int32) (a4 : Int32) (a5 : Int32) (h1 : vp_in (i + 1) L) (ha1 : xs (Int32.toNatClampNeg (i + 1)) = a1) (h2 : vp_in (i + 2) L) (ha2 : xs (Int32.toNatClampNeg (i + 2)) = a2) (h3 : vp_in (i + 3) L) (ha3 : xs (Int32.toNatClampNeg (i + 3)) = a3) (h4 : vp_in (i + 4) L) (ha4 : xs (Int32.toNatClampNeg (i + 4)) = a4) (h5 : vp_in (i + 5) L) (ha5 : xs (Int32.toNatClampNeg (i + 5)) = a5) (K : ∀ st : x_S, I st → x_V p l e room_1 s m args below meth c (x_k D cA ad) 8 (cells + 1) (slots + 6) Q (x_F ad cA st) 716 [(0, (.ref b)), (1, (.ref (ad (0, 0)))), (2, (.ref (ad (18, 0)))), (3, (.ref (ad (32, 0)))), (4, (.int i))] []) (hk : law_ok_0 I stp psz gk gl gh opn cki ckl mp rk rv ri chk mo mi ml mk mlo mhi pk ps pl ph mm out a1 a2 a3 a4 a5) : x_V p l e room_1 s m args below meth c (x_k D cA ad) 8 cells slots Q (x_F ad cA ((stp, psz, gk, gl, gh, opn, cki, ckl, mp, rk, rv, ri, chk), (mo, mi, ml, mk, mlo, mhi, pk, ps, pl, ph, mm), out)) 92 [(0, (.ref b)), (1, (.ref (ad (0, 0)))), (2, (.ref (ad (18, 0)))), (3, (.ref (ad (32, 0)))), (4, (.int i))] [] := by
  unfold law_ok_0 at hk
  refine x_aload_n 1 C d_Lw_law_92 rfl rfl ?_
  refine x_aload_n 0 C d_Lw_law_93 rfl rfl ?_
  refine x_iload 4 C d_Lw_law_94 rfl ?_
  refine x_iconst (v := 1) C d_Lw_law_96 (by decide) ?_
  refine x_iadd C d_Lw_law_97 ?_
  refine x_sldE C hX hbl hbA h1 ha1 d_Lw_law_98 ?_
  refine x_aload_n 0 C d_Lw_law_99 rfl rfl ?_
  refine x_iload 4 C d_Lw_law_100 rfl ?_
  refine x_iconst (v := 2) C d_Lw_law_102 (by decide) ?_
  refine x_iadd C d_Lw_law_103 ?_
  refine x_sldE C hX hbl hbA h2 ha2 d_Lw_law_104 ?_
  refine x_aload_n 0 C d_Lw_law_105 rfl rfl ?_
  refine x_iload 4 C d_Lw_law_106 rfl ?_
  refine x_iconst (v := 3) C d_Lw_law_108 (by decide) ?_
  refine x_iadd C d_Lw_law_109 ?_
  refine x_sldE C hX hbl hbA h3 ha3 d_Lw_law_110 ?_
  refine x_aload_n 0 C d_Lw_law_111 rfl rfl ?_
  refine x_iload 4 C d_Lw_law_112 rfl ?_
  refine x_iconst (v := 4) C d_Lw_law_114 (by decide) ?_
  refine x_iadd C d_Lw_law_115 ?_
  refine x_sldE C hX hbl hbA h4 ha4 d_Lw_law_116 ?_
  refine x_aload_n 0 C d_Lw_law_117 rfl rfl ?_
  refine x_iload 4 C d_Lw_law_118 rfl ?_
  refine x_iconst (v := 5) C d_Lw_law_120 (by decide) ?_
  refine x_iadd C d_Lw_law_121 ?_
  refine x_sldE C hX hbl hbA h5 ha5 d_Lw_law_122 ?_
  refine x_aload_n 3 C d_Lw_law_123 rfl rfl ?_
  refine x_csH (F := x_F ad cA) (As := [(.ref (ad (0, 0))), (.int a1), (.int a2), (.int a3), (.int a4), (.int a5), (.ref (ad (32, 0)))]) (rest := []) C k_Lw_add q_243 (c_Lw_add htr ok a1 a2 a3 a4 a5) rfl hg hj hap rfl rfl (Nat.le_of_ble_eq_true rfl) (Nat.le_of_ble_eq_true rfl) rfl rfl (Nat.le_of_ble_eq_true rfl) d_Lw_law_124 hrm ?_
  generalize hq1 : s_Lw_add stp psz chk out a1 a2 a3 a4 a5 = q1 at hk ⊢
  obtain ⟨r1, stp1, psz1, chk1, out1⟩ := q1
  have hk := x_lete hk.2
  dsimp only at hk ⊢
  refine x_istore (lv' := [(5, (.int r1)), (0, (.ref b)), (1, (.ref (ad (0, 0)))), (2, (.ref (ad (18, 0)))), (3, (.ref (ad (32, 0)))), (4, (.int i))]) C d_Lw_law_127 (by decide) rfl ?_
  refine x_aload_n 3 C d_Lw_law_129 rfl rfl ?_
  refine x_aload_n 1 C d_Lw_law_130 rfl rfl ?_
  refine x_iload 5 C d_Lw_law_131 rfl ?_
  refine x_iconst (v := 1) C d_Lw_law_133 (by decide) ?_
  refine x_iadd C d_Lw_law_134 ?_
  refine x_sldE C hX hbl hbA h1 ha1 d_Lw_law_135 ?_
  refine x_aload_n 1 C d_Lw_law_136 rfl rfl ?_
  refine x_iload 5 C d_Lw_law_137 rfl ?_
  refine x_iconst (v := 2) C d_Lw_law_139 (by decide) ?_
  refine x_iadd C d_Lw_law_140 ?_
  refine x_sldE C hX hbl hbA h2 ha2 d_Lw_law_141 ?_
  refine x_aload_n 1 C d_Lw_law_142 rfl rfl ?_
  refine x_iload 5 C d_Lw_law_143 rfl ?_
  refine x_iconst (v := 3) C d_Lw_law_145 (by decide) ?_
  refine x_iadd C d_Lw_law_146 ?_
  refine x_sldE C hX hbl hbA h3 ha3 d_Lw_law_147 ?_
  refine x_aload_n 1 C d_Lw_law_148 rfl rfl ?_
  refine x_iload 5 C d_Lw_law_149 rfl ?_
  refine x_iconst (v := 4) C d_Lw_law_151 (by decide) ?_
  refine x_iadd C d_Lw_law_152 ?_
  refine x_sldE C hX hbl hbA h4 ha4 d_Lw_law_153 ?_
  refine x_aload_n 1 C d_Lw_law_154 rfl rfl ?_
  refine x_iload 5 C d_Lw_law_155 rfl ?_
  refine x_iconst (v := 5) C d_Lw_law_157 (by decide) ?_
  refine x_iadd C d_Lw_law_158 ?_
  refine x_sldE C hX hbl hbA h5 ha5 d_Lw_law_159 ?_
  refine x_cv (i := (18, 0)) (F := x_F ad cA) (As := [(.int a1), (.int a2), (.int a3), (.int a4), (.int a5)]) (rest := []) C k_Md_add q_874 (c_Md_add ok a1 a2 a3 a4 a5 hk.1) rfl rfl rfl (Nat.le_of_ble_eq_true rfl) (Nat.le_of_ble_eq_true rfl) m_18 rfl rfl rfl rfl rfl (Nat.le_of_ble_eq_true rfl) d_Lw_law_160 hrm ?_
  generalize hq2 : s_Md_add mo mi a1 a2 a3 a4 a5 = q2 at hk ⊢
  obtain ⟨r2, mo2, mi2⟩ := q2
  have hk := x_lete hk.2
  dsimp only at hk ⊢
  refine x_istore (lv' := [(6, (.int r2)), (5, (.int r1)), (0, (.ref b)), (1, (.ref (ad (0, 0)))), (2, (.ref (ad (18, 0)))), (3, (.ref (ad (32, 0)))), (4, (.int i))]) C d_Lw_law_163 (by decide) rfl ?_
  refine x_aload_n 4 C d_Lw_law_165 rfl rfl ?_
  refine x_cv (i := (18, 0)) (F := x_F ad cA) (As := []) (rest := []) C k_Md_thrown q_870 (c_Md_thrown ok) rfl rfl rfl (Nat.le_of_ble_eq_true rfl) (Nat.le_of_ble_eq_true rfl) m_18 rfl rfl rfl rfl rfl (Nat.le_of_ble_eq_true rfl) d_Lw_law_166 hrm ?_
  generalize hq3 : s_Md_thrown mi2 = r3 at hk ⊢
  have hk := x_lete hk.2
  refine x_iload 1 C d_Lw_law_169 rfl ?_
  refine x_gicmp_eq 176 C d_Lw_law_171 (by decide) (fun z4 => ?_) (fun z4 => ?_)
  · have hk := x_okt hk z4
    refine x_iload 1 C d_Lw_law_176 rfl ?_
    refine x_gif_ne 193 C d_Lw_law_178 (by decide) (fun z5 => ?_) (fun z5 => ?_)
    · have hk := x_okt hk z5
      refine x_aload_n 5 C d_Lw_law_181 rfl rfl ?_
      refine x_iconst (v := 0) C d_Lw_law_182 (by decide) ?_
      refine x_lald (i := (32, 0)) (g := out1) 1 C m_32 rfl rfl (x_vin (by decide)) d_Lw_law_183 ?_
      refine x_iload 0 C d_Lw_law_184 rfl ?_
      refine x_i2l C d_Lw_law_186 ?_
      refine x_glcmp_eq 193 C d_Lw_law_187 d_Lw_law_188 (by decide) (fun z6 => ?_) (fun z6 => ?_)
      · have hk := x_okt hk z6
        refine x_goto 716 C d_Lw_law_193 (by decide) ?_
        refine x_loc (lv' := [(0, (.ref b)), (1, (.ref (ad (0, 0)))), (2, (.ref (ad (18, 0)))), (3, (.ref (ad (32, 0)))), (4, (.int i))]) [2, 3, 4, 5, 6] rfl ?_
        exact K _ hk
      · have hk := x_okf hk z6
        refine x_iconst (v := 0) C d_Lw_law_191 (by decide) ?_
        exact False.elim hk
    · have hk := x_okf hk z5
      refine x_goto 716 C d_Lw_law_193 (by decide) ?_
      refine x_loc (lv' := [(0, (.ref b)), (1, (.ref (ad (0, 0)))), (2, (.ref (ad (18, 0)))), (3, (.ref (ad (32, 0)))), (4, (.int i))]) [2, 3, 4, 5, 6] rfl ?_
      exact K _ hk
  · have hk := x_okf hk z4
    refine x_iconst (v := 0) C d_Lw_law_174 (by decide) ?_
    exact False.elim hk
def law_ok_1 (I : x_S → Prop) (stp : Nat → Nat → Int32) (psz : Int32) (gk : Nat → Nat → Int32) (gl : Nat → Nat → Int64) (gh : Nat → Nat → Int64) (opn : Nat → Int32) (cki : Nat → Int32) (ckl : Nat → Int64) (mp : Nat → Nat → Int64) (rk : Nat → Int32) (rv : Nat → Int64) (ri : Nat → Int32) (chk : Int32) (mo : Nat → Nat → Int32) (mi : Nat → Int32) (ml : Nat → Int64) (mk : Nat → Int32) (mlo : Nat → Int64) (mhi : Nat → Int64) (pk : Nat → Int32) (ps : Nat → Int32) (pl : Nat → Int64) (ph : Nat → Int64) (mm : Nat → Int64) (out : Nat → Int64) (a1 : Int32) (a2 : Int32) (a3 : Int32) (a4 : Int32) (a5 : Int32) (a6 : Int32) : Prop :=
  (True ∧ x_let (s_Lw_put stp psz chk a1 a2 a3 a4 a5 a6) fun (r1, stp1, chk1) => (k_ok_Md_put mo mi a1 a2 a3 a4 a5 a6 ∧ x_let (s_Md_put mo mi a1 a2 a3 a4 a5 a6) fun (mo2, mi2) => (True ∧ x_let (s_Md_thrown mi2) fun r3 => (if r3 = r1 then I ((stp1, psz, gk, gl, gh, opn, cki, ckl, mp, rk, rv, ri, chk1), (mo2, mi2, ml, mk, mlo, mhi, pk, ps, pl, ph, mm), out) else False))))
set_option maxHeartbeats 4000000 in
set_option maxRecDepth 100000 in
theorem law_arm_1 {l : Launch} (htr : l.stackTraces = false) {D : va_G} {cA : Nat → ClassId} {ad : x_I → Nat} (ok : x_ok (x_k D cA ad)) {p : Program} {e : Env} {s : State} {m : MethodId} {args : Array Value} {below : List Frame} {meth : Method} {c : Code} {cells slots : Nat} {Q : State → Prop} {b L : Nat} {xs : Nat → Int32} {i : Int32} {w0 : Cond} (C : x_C p s m args c b_Lw_law 8 R_Lw (w0 :: x_Wd) (x_k D cA ad)) (hX : va_X b L xs s s.heap) (hbl : b < s.heap.size) (hbA : ¬ x_A (x_k D cA ad) s.heap.size b) (hg : x_G s) (hj : x_J s) (hap : ∀ q : Nat, q < s.heap.size → ¬ x_A (x_k D cA ad) s.heap.size q) (hrm : cells + 1 ≤ room_1.cells ∧ slots + 6 ≤ room_1.slots) (I : x_S → Prop) (stp : Nat → Nat → Int32) (psz : Int32) (gk : Nat → Nat → Int32) (gl : Nat → Nat → Int64) (gh : Nat → Nat → Int64) (opn : Nat → Int32) (cki : Nat → Int32) (ckl : Nat → Int64) (mp : Nat → Nat → Int64) (rk : Nat → Int32) (rv : Nat → Int64) (ri : Nat → Int32) (chk : Int32) (mo : Nat → Nat → Int32) (mi : Nat → Int32) (ml : Nat → Int64) (mk : Nat → Int32) (mlo : Nat → Int64) (mhi : Nat → Int64) (pk : Nat → Int32) (ps : Nat → Int32) (pl : Nat → Int64) (ph : Nat → Int64) (mm : Nat → Int64) (out : Nat → Int64) (a1 : Int32) (a2 : Int32) (a3 : Int32) (a4 : Int32) (a5 : Int32) (a6 : Int32) (h1 : vp_in (i + 1) L) (ha1 : xs (Int32.toNatClampNeg (i + 1)) = a1) (h2 : vp_in (i + 2) L) (ha2 : xs (Int32.toNatClampNeg (i + 2)) = a2) (h3 : vp_in (i + 3) L) (ha3 : xs (Int32.toNatClampNeg (i + 3)) = a3) (h4 : vp_in (i + 4) L) (ha4 : xs (Int32.toNatClampNeg (i + 4)) = a4) (h5 : vp_in (i + 5) L) (ha5 : xs (Int32.toNatClampNeg (i + 5)) = a5) (h6 : vp_in (i + 6) L) (ha6 : xs (Int32.toNatClampNeg (i + 6)) = a6) (K : ∀ st : x_S, I st → x_V p l e room_1 s m args below meth c (x_k D cA ad) 8 (cells + 1) (slots + 6) Q (x_F ad cA st) 716 [(0, (.ref b)), (1, (.ref (ad (0, 0)))), (2, (.ref (ad (18, 0)))), (3, (.ref (ad (32, 0)))), (4, (.int i))] []) (hk : law_ok_1 I stp psz gk gl gh opn cki ckl mp rk rv ri chk mo mi ml mk mlo mhi pk ps pl ph mm out a1 a2 a3 a4 a5 a6) : x_V p l e room_1 s m args below meth c (x_k D cA ad) 8 cells slots Q (x_F ad cA ((stp, psz, gk, gl, gh, opn, cki, ckl, mp, rk, rv, ri, chk), (mo, mi, ml, mk, mlo, mhi, pk, ps, pl, ph, mm), out)) 196 [(0, (.ref b)), (1, (.ref (ad (0, 0)))), (2, (.ref (ad (18, 0)))), (3, (.ref (ad (32, 0)))), (4, (.int i))] [] := by
  unfold law_ok_1 at hk
  refine x_aload_n 1 C d_Lw_law_196 rfl rfl ?_
  refine x_aload_n 0 C d_Lw_law_197 rfl rfl ?_
  refine x_iload 4 C d_Lw_law_198 rfl ?_
  refine x_iconst (v := 1) C d_Lw_law_200 (by decide) ?_
  refine x_iadd C d_Lw_law_201 ?_
  refine x_sldE C hX hbl hbA h1 ha1 d_Lw_law_202 ?_
  refine x_aload_n 0 C d_Lw_law_203 rfl rfl ?_
  refine x_iload 4 C d_Lw_law_204 rfl ?_
  refine x_iconst (v := 2) C d_Lw_law_206 (by decide) ?_
  refine x_iadd C d_Lw_law_207 ?_
  refine x_sldE C hX hbl hbA h2 ha2 d_Lw_law_208 ?_
  refine x_aload_n 0 C d_Lw_law_209 rfl rfl ?_
  refine x_iload 4 C d_Lw_law_210 rfl ?_
  refine x_iconst (v := 3) C d_Lw_law_212 (by decide) ?_
  refine x_iadd C d_Lw_law_213 ?_
  refine x_sldE C hX hbl hbA h3 ha3 d_Lw_law_214 ?_
  refine x_aload_n 0 C d_Lw_law_215 rfl rfl ?_
  refine x_iload 4 C d_Lw_law_216 rfl ?_
  refine x_iconst (v := 4) C d_Lw_law_218 (by decide) ?_
  refine x_iadd C d_Lw_law_219 ?_
  refine x_sldE C hX hbl hbA h4 ha4 d_Lw_law_220 ?_
  refine x_aload_n 0 C d_Lw_law_221 rfl rfl ?_
  refine x_iload 4 C d_Lw_law_222 rfl ?_
  refine x_iconst (v := 5) C d_Lw_law_224 (by decide) ?_
  refine x_iadd C d_Lw_law_225 ?_
  refine x_sldE C hX hbl hbA h5 ha5 d_Lw_law_226 ?_
  refine x_aload_n 0 C d_Lw_law_227 rfl rfl ?_
  refine x_iload 4 C d_Lw_law_228 rfl ?_
  refine x_bipush (v := 6) C d_Lw_law_230 (by decide) ?_
  refine x_iadd C d_Lw_law_232 ?_
  refine x_sldE C hX hbl hbA h6 ha6 d_Lw_law_233 ?_
  refine x_csH (F := x_F ad cA) (As := [(.ref (ad (0, 0))), (.int a1), (.int a2), (.int a3), (.int a4), (.int a5), (.int a6)]) (rest := []) C k_Lw_put q_355 (c_Lw_put htr ok a1 a2 a3 a4 a5 a6) rfl hg hj hap rfl rfl (Nat.le_of_ble_eq_true rfl) (Nat.le_of_ble_eq_true rfl) rfl rfl (Nat.le_of_ble_eq_true rfl) d_Lw_law_234 hrm ?_
  generalize hq1 : s_Lw_put stp psz chk a1 a2 a3 a4 a5 a6 = q1 at hk ⊢
  obtain ⟨r1, stp1, chk1⟩ := q1
  have hk := x_lete hk.2
  dsimp only at hk ⊢
  refine x_istore (lv' := [(5, (.int r1)), (0, (.ref b)), (1, (.ref (ad (0, 0)))), (2, (.ref (ad (18, 0)))), (3, (.ref (ad (32, 0)))), (4, (.int i))]) C d_Lw_law_237 (by decide) rfl ?_
  refine x_aload_n 3 C d_Lw_law_239 rfl rfl ?_
  refine x_aload_n 1 C d_Lw_law_240 rfl rfl ?_
  refine x_iload 5 C d_Lw_law_241 rfl ?_
  refine x_iconst (v := 1) C d_Lw_law_243 (by decide) ?_
  refine x_iadd C d_Lw_law_244 ?_
  refine x_sldE C hX hbl hbA h1 ha1 d_Lw_law_245 ?_
  refine x_aload_n 1 C d_Lw_law_246 rfl rfl ?_
  refine x_iload 5 C d_Lw_law_247 rfl ?_
  refine x_iconst (v := 2) C d_Lw_law_249 (by decide) ?_
  refine x_iadd C d_Lw_law_250 ?_
  refine x_sldE C hX hbl hbA h2 ha2 d_Lw_law_251 ?_
  refine x_aload_n 1 C d_Lw_law_252 rfl rfl ?_
  refine x_iload 5 C d_Lw_law_253 rfl ?_
  refine x_iconst (v := 3) C d_Lw_law_255 (by decide) ?_
  refine x_iadd C d_Lw_law_256 ?_
  refine x_sldE C hX hbl hbA h3 ha3 d_Lw_law_257 ?_
  refine x_aload_n 1 C d_Lw_law_258 rfl rfl ?_
  refine x_iload 5 C d_Lw_law_259 rfl ?_
  refine x_iconst (v := 4) C d_Lw_law_261 (by decide) ?_
  refine x_iadd C d_Lw_law_262 ?_
  refine x_sldE C hX hbl hbA h4 ha4 d_Lw_law_263 ?_
  refine x_aload_n 1 C d_Lw_law_264 rfl rfl ?_
  refine x_iload 5 C d_Lw_law_265 rfl ?_
  refine x_iconst (v := 5) C d_Lw_law_267 (by decide) ?_
  refine x_iadd C d_Lw_law_268 ?_
  refine x_sldE C hX hbl hbA h5 ha5 d_Lw_law_269 ?_
  refine x_aload_n 1 C d_Lw_law_270 rfl rfl ?_
  refine x_iload 5 C d_Lw_law_271 rfl ?_
  refine x_bipush (v := 6) C d_Lw_law_273 (by decide) ?_
  refine x_iadd C d_Lw_law_275 ?_
  refine x_sldE C hX hbl hbA h6 ha6 d_Lw_law_276 ?_
  refine x_cv0 (i := (18, 0)) (F := x_F ad cA) (As := [(.int a1), (.int a2), (.int a3), (.int a4), (.int a5), (.int a6)]) (rest := []) C k_Md_put q_896 (c_Md_put ok a1 a2 a3 a4 a5 a6 hk.1) rfl rfl rfl (Nat.le_of_ble_eq_true rfl) (Nat.le_of_ble_eq_true rfl) m_18 rfl rfl rfl rfl rfl (Nat.le_of_ble_eq_true rfl) d_Lw_law_277 hrm ?_
  generalize hq2 : s_Md_put mo mi a1 a2 a3 a4 a5 a6 = q2 at hk ⊢
  obtain ⟨mo2, mi2⟩ := q2
  have hk := x_lete hk.2
  dsimp only at hk ⊢
  refine x_aload_n 3 C d_Lw_law_280 rfl rfl ?_
  refine x_cv (i := (18, 0)) (F := x_F ad cA) (As := []) (rest := []) C k_Md_thrown q_870 (c_Md_thrown ok) rfl rfl rfl (Nat.le_of_ble_eq_true rfl) (Nat.le_of_ble_eq_true rfl) m_18 rfl rfl rfl rfl rfl (Nat.le_of_ble_eq_true rfl) d_Lw_law_281 hrm ?_
  generalize hq3 : s_Md_thrown mi2 = r3 at hk ⊢
  have hk := x_lete hk.2
  refine x_iload 0 C d_Lw_law_284 rfl ?_
  refine x_gicmp_eq 291 C d_Lw_law_286 (by decide) (fun z4 => ?_) (fun z4 => ?_)
  · have hk := x_okt hk z4
    refine x_goto 716 C d_Lw_law_291 (by decide) ?_
    refine x_loc (lv' := [(0, (.ref b)), (1, (.ref (ad (0, 0)))), (2, (.ref (ad (18, 0)))), (3, (.ref (ad (32, 0)))), (4, (.int i))]) [1, 2, 3, 4, 5] rfl ?_
    exact K _ hk
  · have hk := x_okf hk z4
    refine x_iconst (v := 0) C d_Lw_law_289 (by decide) ?_
    exact False.elim hk
def law_ok_2 (I : x_S → Prop) (stp : Nat → Nat → Int32) (psz : Int32) (gk : Nat → Nat → Int32) (gl : Nat → Nat → Int64) (gh : Nat → Nat → Int64) (opn : Nat → Int32) (cki : Nat → Int32) (ckl : Nat → Int64) (mp : Nat → Nat → Int64) (rk : Nat → Int32) (rv : Nat → Int64) (ri : Nat → Int32) (chk : Int32) (mo : Nat → Nat → Int32) (mi : Nat → Int32) (ml : Nat → Int64) (mk : Nat → Int32) (mlo : Nat → Int64) (mhi : Nat → Int64) (pk : Nat → Int32) (ps : Nat → Int32) (pl : Nat → Int64) (ph : Nat → Int64) (mm : Nat → Int64) (out : Nat → Int64) (a1 : Int32) : Prop :=
  (True ∧ x_let (s_Lw_cut psz chk a1) fun (r1, psz1, chk1) => (True ∧ x_let (s_Md_cut mi a1) fun mi2 => (True ∧ x_let (s_Md_thrown mi2) fun r3 => (if r3 = r1 then I ((stp, psz1, gk, gl, gh, opn, cki, ckl, mp, rk, rv, ri, chk1), (mo, mi2, ml, mk, mlo, mhi, pk, ps, pl, ph, mm), out) else False))))
set_option maxHeartbeats 4000000 in
set_option maxRecDepth 100000 in
theorem law_arm_2 {l : Launch} (htr : l.stackTraces = false) {D : va_G} {cA : Nat → ClassId} {ad : x_I → Nat} (ok : x_ok (x_k D cA ad)) {p : Program} {e : Env} {s : State} {m : MethodId} {args : Array Value} {below : List Frame} {meth : Method} {c : Code} {cells slots : Nat} {Q : State → Prop} {b L : Nat} {xs : Nat → Int32} {i : Int32} {w0 : Cond} (C : x_C p s m args c b_Lw_law 8 R_Lw (w0 :: x_Wd) (x_k D cA ad)) (hX : va_X b L xs s s.heap) (hbl : b < s.heap.size) (hbA : ¬ x_A (x_k D cA ad) s.heap.size b) (hg : x_G s) (hj : x_J s) (hap : ∀ q : Nat, q < s.heap.size → ¬ x_A (x_k D cA ad) s.heap.size q) (hrm : cells + 1 ≤ room_1.cells ∧ slots + 6 ≤ room_1.slots) (I : x_S → Prop) (stp : Nat → Nat → Int32) (psz : Int32) (gk : Nat → Nat → Int32) (gl : Nat → Nat → Int64) (gh : Nat → Nat → Int64) (opn : Nat → Int32) (cki : Nat → Int32) (ckl : Nat → Int64) (mp : Nat → Nat → Int64) (rk : Nat → Int32) (rv : Nat → Int64) (ri : Nat → Int32) (chk : Int32) (mo : Nat → Nat → Int32) (mi : Nat → Int32) (ml : Nat → Int64) (mk : Nat → Int32) (mlo : Nat → Int64) (mhi : Nat → Int64) (pk : Nat → Int32) (ps : Nat → Int32) (pl : Nat → Int64) (ph : Nat → Int64) (mm : Nat → Int64) (out : Nat → Int64) (a1 : Int32) (h1 : vp_in (i + 1) L) (ha1 : xs (Int32.toNatClampNeg (i + 1)) = a1) (K : ∀ st : x_S, I st → x_V p l e room_1 s m args below meth c (x_k D cA ad) 8 (cells + 1) (slots + 6) Q (x_F ad cA st) 716 [(0, (.ref b)), (1, (.ref (ad (0, 0)))), (2, (.ref (ad (18, 0)))), (3, (.ref (ad (32, 0)))), (4, (.int i))] []) (hk : law_ok_2 I stp psz gk gl gh opn cki ckl mp rk rv ri chk mo mi ml mk mlo mhi pk ps pl ph mm out a1) : x_V p l e room_1 s m args below meth c (x_k D cA ad) 8 cells slots Q (x_F ad cA ((stp, psz, gk, gl, gh, opn, cki, ckl, mp, rk, rv, ri, chk), (mo, mi, ml, mk, mlo, mhi, pk, ps, pl, ph, mm), out)) 294 [(0, (.ref b)), (1, (.ref (ad (0, 0)))), (2, (.ref (ad (18, 0)))), (3, (.ref (ad (32, 0)))), (4, (.int i))] [] := by
  unfold law_ok_2 at hk
  refine x_aload_n 1 C d_Lw_law_294 rfl rfl ?_
  refine x_aload_n 0 C d_Lw_law_295 rfl rfl ?_
  refine x_iload 4 C d_Lw_law_296 rfl ?_
  refine x_iconst (v := 1) C d_Lw_law_298 (by decide) ?_
  refine x_iadd C d_Lw_law_299 ?_
  refine x_sldE C hX hbl hbA h1 ha1 d_Lw_law_300 ?_
  refine x_csH (F := x_F ad cA) (As := [(.ref (ad (0, 0))), (.int a1)]) (rest := []) C k_Lw_cut q_379 (c_Lw_cut htr ok a1) rfl hg hj hap rfl rfl (Nat.le_of_ble_eq_true rfl) (Nat.le_of_ble_eq_true rfl) rfl rfl (Nat.le_of_ble_eq_true rfl) d_Lw_law_301 hrm ?_
  generalize hq1 : s_Lw_cut psz chk a1 = q1 at hk ⊢
  obtain ⟨r1, psz1, chk1⟩ := q1
  have hk := x_lete hk.2
  dsimp only at hk ⊢
  refine x_istore (lv' := [(5, (.int r1)), (0, (.ref b)), (1, (.ref (ad (0, 0)))), (2, (.ref (ad (18, 0)))), (3, (.ref (ad (32, 0)))), (4, (.int i))]) C d_Lw_law_304 (by decide) rfl ?_
  refine x_aload_n 3 C d_Lw_law_306 rfl rfl ?_
  refine x_aload_n 1 C d_Lw_law_307 rfl rfl ?_
  refine x_iload 5 C d_Lw_law_308 rfl ?_
  refine x_iconst (v := 1) C d_Lw_law_310 (by decide) ?_
  refine x_iadd C d_Lw_law_311 ?_
  refine x_sldE C hX hbl hbA h1 ha1 d_Lw_law_312 ?_
  refine x_cv0 (i := (18, 0)) (F := x_F ad cA) (As := [(.int a1)]) (rest := []) C k_Md_cut q_900 (c_Md_cut ok a1) rfl rfl rfl (Nat.le_of_ble_eq_true rfl) (Nat.le_of_ble_eq_true rfl) m_18 rfl rfl rfl rfl rfl (Nat.le_of_ble_eq_true rfl) d_Lw_law_313 hrm ?_
  generalize hq2 : s_Md_cut mi a1 = mi2 at hk ⊢
  have hk := x_lete hk.2
  refine x_aload_n 3 C d_Lw_law_316 rfl rfl ?_
  refine x_cv (i := (18, 0)) (F := x_F ad cA) (As := []) (rest := []) C k_Md_thrown q_870 (c_Md_thrown ok) rfl rfl rfl (Nat.le_of_ble_eq_true rfl) (Nat.le_of_ble_eq_true rfl) m_18 rfl rfl rfl rfl rfl (Nat.le_of_ble_eq_true rfl) d_Lw_law_317 hrm ?_
  generalize hq3 : s_Md_thrown mi2 = r3 at hk ⊢
  have hk := x_lete hk.2
  refine x_iload 0 C d_Lw_law_320 rfl ?_
  refine x_gicmp_eq 327 C d_Lw_law_322 (by decide) (fun z4 => ?_) (fun z4 => ?_)
  · have hk := x_okt hk z4
    refine x_goto 716 C d_Lw_law_327 (by decide) ?_
    refine x_loc (lv' := [(0, (.ref b)), (1, (.ref (ad (0, 0)))), (2, (.ref (ad (18, 0)))), (3, (.ref (ad (32, 0)))), (4, (.int i))]) [1, 2, 3, 4, 5] rfl ?_
    exact K _ hk
  · have hk := x_okf hk z4
    refine x_iconst (v := 0) C d_Lw_law_325 (by decide) ?_
    exact False.elim hk
def law_ok_3 (I : x_S → Prop) (stp : Nat → Nat → Int32) (psz : Int32) (gk : Nat → Nat → Int32) (gl : Nat → Nat → Int64) (gh : Nat → Nat → Int64) (opn : Nat → Int32) (cki : Nat → Int32) (ckl : Nat → Int64) (mp : Nat → Nat → Int64) (rk : Nat → Int32) (rv : Nat → Int64) (ri : Nat → Int32) (chk : Int32) (mo : Nat → Nat → Int32) (mi : Nat → Int32) (ml : Nat → Int64) (mk : Nat → Int32) (mlo : Nat → Int64) (mhi : Nat → Int64) (pk : Nat → Int32) (ps : Nat → Int32) (pl : Nat → Int64) (ph : Nat → Int64) (mm : Nat → Int64) (out : Nat → Int64)  : Prop :=
  (x_wf stp ∧ x_let (s_Lw_check stp psz gk gl gh opn cki ckl chk out) fun (r1, gk1, gl1, gh1, opn1, cki1, ckl1, chk1, out1) => (k_ok_Md_check mo mi ml mk mlo mhi pk ps pl ph ∧ x_let (s_Md_check mo mi ml mk mlo mhi pk ps pl ph) fun (r2, mi2, ml2, mk2, mlo2, mhi2, pk2, ps2, pl2, ph2) => (True ∧ x_let (s_Md_thrown mi2) fun r3 => (if r3 = r1 then (if r1 = 0 then (if (out1 (Int32.toNatClampNeg 0)) = (Int32.toInt64 r2) then I ((stp, psz, gk1, gl1, gh1, opn1, cki1, ckl1, mp, rk, rv, ri, chk1), (mo, mi2, ml2, mk2, mlo2, mhi2, pk2, ps2, pl2, ph2, mm), out1) else False) else I ((stp, psz, gk1, gl1, gh1, opn1, cki1, ckl1, mp, rk, rv, ri, chk1), (mo, mi2, ml2, mk2, mlo2, mhi2, pk2, ps2, pl2, ph2, mm), out1)) else False))))
set_option maxHeartbeats 4000000 in
set_option maxRecDepth 100000 in
theorem law_arm_3 {l : Launch} (htr : l.stackTraces = false) {D : va_G} {cA : Nat → ClassId} {ad : x_I → Nat} (ok : x_ok (x_k D cA ad)) {p : Program} {e : Env} {s : State} {m : MethodId} {args : Array Value} {below : List Frame} {meth : Method} {c : Code} {cells slots : Nat} {Q : State → Prop} {b L : Nat} {xs : Nat → Int32} {i : Int32} {w0 : Cond} (C : x_C p s m args c b_Lw_law 8 R_Lw (w0 :: x_Wd) (x_k D cA ad)) (hX : va_X b L xs s s.heap) (hbl : b < s.heap.size) (hbA : ¬ x_A (x_k D cA ad) s.heap.size b) (hg : x_G s) (hj : x_J s) (hap : ∀ q : Nat, q < s.heap.size → ¬ x_A (x_k D cA ad) s.heap.size q) (hrm : cells + 1 ≤ room_1.cells ∧ slots + 6 ≤ room_1.slots) (I : x_S → Prop) (stp : Nat → Nat → Int32) (psz : Int32) (gk : Nat → Nat → Int32) (gl : Nat → Nat → Int64) (gh : Nat → Nat → Int64) (opn : Nat → Int32) (cki : Nat → Int32) (ckl : Nat → Int64) (mp : Nat → Nat → Int64) (rk : Nat → Int32) (rv : Nat → Int64) (ri : Nat → Int32) (chk : Int32) (mo : Nat → Nat → Int32) (mi : Nat → Int32) (ml : Nat → Int64) (mk : Nat → Int32) (mlo : Nat → Int64) (mhi : Nat → Int64) (pk : Nat → Int32) (ps : Nat → Int32) (pl : Nat → Int64) (ph : Nat → Int64) (mm : Nat → Int64) (out : Nat → Int64)   (K : ∀ st : x_S, I st → x_V p l e room_1 s m args below meth c (x_k D cA ad) 8 (cells + 1) (slots + 6) Q (x_F ad cA st) 716 [(0, (.ref b)), (1, (.ref (ad (0, 0)))), (2, (.ref (ad (18, 0)))), (3, (.ref (ad (32, 0)))), (4, (.int i))] []) (hk : law_ok_3 I stp psz gk gl gh opn cki ckl mp rk rv ri chk mo mi ml mk mlo mhi pk ps pl ph mm out) : x_V p l e room_1 s m args below meth c (x_k D cA ad) 8 cells slots Q (x_F ad cA ((stp, psz, gk, gl, gh, opn, cki, ckl, mp, rk, rv, ri, chk), (mo, mi, ml, mk, mlo, mhi, pk, ps, pl, ph, mm), out)) 330 [(0, (.ref b)), (1, (.ref (ad (0, 0)))), (2, (.ref (ad (18, 0)))), (3, (.ref (ad (32, 0)))), (4, (.int i))] [] := by
  unfold law_ok_3 at hk
  refine x_aload_n 1 C d_Lw_law_330 rfl rfl ?_
  refine x_aload_n 3 C d_Lw_law_331 rfl rfl ?_
  refine x_csH (F := x_F ad cA) (As := [(.ref (ad (0, 0))), (.ref (ad (32, 0)))]) (rest := []) C k_Lw_check q_391 (c_Lw_check htr ok hk.1) rfl hg hj hap rfl rfl (Nat.le_of_ble_eq_true rfl) (Nat.le_of_ble_eq_true rfl) rfl rfl (Nat.le_of_ble_eq_true rfl) d_Lw_law_332 hrm ?_
  generalize hq1 : s_Lw_check stp psz gk gl gh opn cki ckl chk out = q1 at hk ⊢
  obtain ⟨r1, gk1, gl1, gh1, opn1, cki1, ckl1, chk1, out1⟩ := q1
  have hk := x_lete hk.2
  dsimp only at hk ⊢
  refine x_istore (lv' := [(5, (.int r1)), (0, (.ref b)), (1, (.ref (ad (0, 0)))), (2, (.ref (ad (18, 0)))), (3, (.ref (ad (32, 0)))), (4, (.int i))]) C d_Lw_law_335 (by decide) rfl ?_
  refine x_aload_n 3 C d_Lw_law_337 rfl rfl ?_
  refine x_cv (i := (18, 0)) (F := x_F ad cA) (As := []) (rest := []) C k_Md_check q_904 (c_Md_check ok hk.1) rfl rfl rfl (Nat.le_of_ble_eq_true rfl) (Nat.le_of_ble_eq_true rfl) m_18 rfl rfl rfl rfl rfl (Nat.le_of_ble_eq_true rfl) d_Lw_law_338 hrm ?_
  generalize hq2 : s_Md_check mo mi ml mk mlo mhi pk ps pl ph = q2 at hk ⊢
  obtain ⟨r2, mi2, ml2, mk2, mlo2, mhi2, pk2, ps2, pl2, ph2⟩ := q2
  have hk := x_lete hk.2
  dsimp only at hk ⊢
  refine x_istore (lv' := [(6, (.int r2)), (5, (.int r1)), (0, (.ref b)), (1, (.ref (ad (0, 0)))), (2, (.ref (ad (18, 0)))), (3, (.ref (ad (32, 0)))), (4, (.int i))]) C d_Lw_law_341 (by decide) rfl ?_
  refine x_aload_n 4 C d_Lw_law_343 rfl rfl ?_
  refine x_cv (i := (18, 0)) (F := x_F ad cA) (As := []) (rest := []) C k_Md_thrown q_870 (c_Md_thrown ok) rfl rfl rfl (Nat.le_of_ble_eq_true rfl) (Nat.le_of_ble_eq_true rfl) m_18 rfl rfl rfl rfl rfl (Nat.le_of_ble_eq_true rfl) d_Lw_law_344 hrm ?_
  generalize hq3 : s_Md_thrown mi2 = r3 at hk ⊢
  have hk := x_lete hk.2
  refine x_iload 1 C d_Lw_law_347 rfl ?_
  refine x_gicmp_eq 354 C d_Lw_law_349 (by decide) (fun z4 => ?_) (fun z4 => ?_)
  · have hk := x_okt hk z4
    refine x_iload 1 C d_Lw_law_354 rfl ?_
    refine x_gif_ne 371 C d_Lw_law_356 (by decide) (fun z5 => ?_) (fun z5 => ?_)
    · have hk := x_okt hk z5
      refine x_aload_n 5 C d_Lw_law_359 rfl rfl ?_
      refine x_iconst (v := 0) C d_Lw_law_360 (by decide) ?_
      refine x_lald (i := (32, 0)) (g := out1) 1 C m_32 rfl rfl (x_vin (by decide)) d_Lw_law_361 ?_
      refine x_iload 0 C d_Lw_law_362 rfl ?_
      refine x_i2l C d_Lw_law_364 ?_
      refine x_glcmp_eq 371 C d_Lw_law_365 d_Lw_law_366 (by decide) (fun z6 => ?_) (fun z6 => ?_)
      · have hk := x_okt hk z6
        refine x_goto 716 C d_Lw_law_371 (by decide) ?_
        refine x_loc (lv' := [(0, (.ref b)), (1, (.ref (ad (0, 0)))), (2, (.ref (ad (18, 0)))), (3, (.ref (ad (32, 0)))), (4, (.int i))]) [2, 3, 4, 5, 6] rfl ?_
        exact K _ hk
      · have hk := x_okf hk z6
        refine x_iconst (v := 0) C d_Lw_law_369 (by decide) ?_
        exact False.elim hk
    · have hk := x_okf hk z5
      refine x_goto 716 C d_Lw_law_371 (by decide) ?_
      refine x_loc (lv' := [(0, (.ref b)), (1, (.ref (ad (0, 0)))), (2, (.ref (ad (18, 0)))), (3, (.ref (ad (32, 0)))), (4, (.int i))]) [2, 3, 4, 5, 6] rfl ?_
      exact K _ hk
  · have hk := x_okf hk z4
    refine x_iconst (v := 0) C d_Lw_law_352 (by decide) ?_
    exact False.elim hk
def law_ok_4 (I : x_S → Prop) (stp : Nat → Nat → Int32) (psz : Int32) (gk : Nat → Nat → Int32) (gl : Nat → Nat → Int64) (gh : Nat → Nat → Int64) (opn : Nat → Int32) (cki : Nat → Int32) (ckl : Nat → Int64) (mp : Nat → Nat → Int64) (rk : Nat → Int32) (rv : Nat → Int64) (ri : Nat → Int32) (chk : Int32) (mo : Nat → Nat → Int32) (mi : Nat → Int32) (ml : Nat → Int64) (mk : Nat → Int32) (mlo : Nat → Int64) (mhi : Nat → Int64) (pk : Nat → Int32) (ps : Nat → Int32) (pl : Nat → Int64) (ph : Nat → Int64) (mm : Nat → Int64) (out : Nat → Int64) (a1 : Int32) (a2 : Int32) : Prop :=
  (x_wf stp ∧ x_let (s_Lw_run stp psz mp rk rv ri chk out (((Int32.toInt64 a1) <<< (Int32.toInt64 32 &&& 63)) ||| ((Int32.toInt64 a2) &&& 4294967295))) fun (r1, mp1, rk1, rv1, ri1, out1) => (k_ok_Md_run mo mi mk mlo mhi mm (((Int32.toInt64 a1) <<< (Int32.toInt64 32 &&& 63)) ||| ((Int32.toInt64 a2) &&& 4294967295)) ∧ x_let (s_Md_run mo mi mk mlo mhi mm (((Int32.toInt64 a1) <<< (Int32.toInt64 32 &&& 63)) ||| ((Int32.toInt64 a2) &&& 4294967295))) fun (r2, mi2, mk2, mlo2, mhi2, mm2) => (True ∧ x_let (s_Md_thrown mi2) fun r3 => (if r3 = r1 then (if r1 = 0 then (if (out1 (Int32.toNatClampNeg 0)) = r2 then I ((stp, psz, gk, gl, gh, opn, cki, ckl, mp1, rk1, rv1, ri1, chk), (mo, mi2, ml, mk2, mlo2, mhi2, pk, ps, pl, ph, mm2), out1) else False) else I ((stp, psz, gk, gl, gh, opn, cki, ckl, mp1, rk1, rv1, ri1, chk), (mo, mi2, ml, mk2, mlo2, mhi2, pk, ps, pl, ph, mm2), out1)) else False))))
set_option maxHeartbeats 4000000 in
set_option maxRecDepth 100000 in
theorem law_arm_4 {l : Launch} (htr : l.stackTraces = false) {D : va_G} {cA : Nat → ClassId} {ad : x_I → Nat} (ok : x_ok (x_k D cA ad)) {p : Program} {e : Env} {s : State} {m : MethodId} {args : Array Value} {below : List Frame} {meth : Method} {c : Code} {cells slots : Nat} {Q : State → Prop} {b L : Nat} {xs : Nat → Int32} {i : Int32} {w0 : Cond} (C : x_C p s m args c b_Lw_law 8 R_Lw (w0 :: x_Wd) (x_k D cA ad)) (hX : va_X b L xs s s.heap) (hbl : b < s.heap.size) (hbA : ¬ x_A (x_k D cA ad) s.heap.size b) (hg : x_G s) (hj : x_J s) (hap : ∀ q : Nat, q < s.heap.size → ¬ x_A (x_k D cA ad) s.heap.size q) (hrm : cells + 1 ≤ room_1.cells ∧ slots + 6 ≤ room_1.slots) (I : x_S → Prop) (stp : Nat → Nat → Int32) (psz : Int32) (gk : Nat → Nat → Int32) (gl : Nat → Nat → Int64) (gh : Nat → Nat → Int64) (opn : Nat → Int32) (cki : Nat → Int32) (ckl : Nat → Int64) (mp : Nat → Nat → Int64) (rk : Nat → Int32) (rv : Nat → Int64) (ri : Nat → Int32) (chk : Int32) (mo : Nat → Nat → Int32) (mi : Nat → Int32) (ml : Nat → Int64) (mk : Nat → Int32) (mlo : Nat → Int64) (mhi : Nat → Int64) (pk : Nat → Int32) (ps : Nat → Int32) (pl : Nat → Int64) (ph : Nat → Int64) (mm : Nat → Int64) (out : Nat → Int64) (a1 : Int32) (a2 : Int32) (h1 : vp_in (i + 1) L) (ha1 : xs (Int32.toNatClampNeg (i + 1)) = a1) (h2 : vp_in (i + 2) L) (ha2 : xs (Int32.toNatClampNeg (i + 2)) = a2) (K : ∀ st : x_S, I st → x_V p l e room_1 s m args below meth c (x_k D cA ad) 8 (cells + 1) (slots + 6) Q (x_F ad cA st) 716 [(0, (.ref b)), (1, (.ref (ad (0, 0)))), (2, (.ref (ad (18, 0)))), (3, (.ref (ad (32, 0)))), (4, (.int i))] []) (hk : law_ok_4 I stp psz gk gl gh opn cki ckl mp rk rv ri chk mo mi ml mk mlo mhi pk ps pl ph mm out a1 a2) : x_V p l e room_1 s m args below meth c (x_k D cA ad) 8 cells slots Q (x_F ad cA ((stp, psz, gk, gl, gh, opn, cki, ckl, mp, rk, rv, ri, chk), (mo, mi, ml, mk, mlo, mhi, pk, ps, pl, ph, mm), out)) 374 [(0, (.ref b)), (1, (.ref (ad (0, 0)))), (2, (.ref (ad (18, 0)))), (3, (.ref (ad (32, 0)))), (4, (.int i))] [] := by
  unfold law_ok_4 at hk
  refine x_aload_n 1 C d_Lw_law_374 rfl rfl ?_
  refine x_aload_n 0 C d_Lw_law_375 rfl rfl ?_
  refine x_iload 4 C d_Lw_law_376 rfl ?_
  refine x_iconst (v := 1) C d_Lw_law_378 (by decide) ?_
  refine x_iadd C d_Lw_law_379 ?_
  refine x_sldE C hX hbl hbA h1 ha1 d_Lw_law_380 ?_
  refine x_i2l C d_Lw_law_381 ?_
  refine x_bipush (v := 32) C d_Lw_law_382 (by decide) ?_
  refine x_lshl C d_Lw_law_384 ?_
  refine x_aload_n 0 C d_Lw_law_385 rfl rfl ?_
  refine x_iload 4 C d_Lw_law_386 rfl ?_
  refine x_iconst (v := 2) C d_Lw_law_388 (by decide) ?_
  refine x_iadd C d_Lw_law_389 ?_
  refine x_sldE C hX hbl hbA h2 ha2 d_Lw_law_390 ?_
  refine x_i2l C d_Lw_law_391 ?_
  refine x_ldc2 (v := 4294967295) C (List.mem_cons_of_mem _ q_1065) d_Lw_law_392 ?_
  refine x_land C d_Lw_law_395 ?_
  refine x_lor C d_Lw_law_396 ?_
  refine x_aload_n 3 C d_Lw_law_397 rfl rfl ?_
  refine x_csH (F := x_F ad cA) (As := [(.ref (ad (0, 0))), (.long (((Int32.toInt64 a1) <<< (Int32.toInt64 32 &&& 63)) ||| ((Int32.toInt64 a2) &&& 4294967295))), (.ref (ad (32, 0)))]) (rest := []) C k_Lw_run q_689 (c_Lw_run htr ok (((Int32.toInt64 a1) <<< (Int32.toInt64 32 &&& 63)) ||| ((Int32.toInt64 a2) &&& 4294967295)) hk.1) rfl hg hj hap rfl rfl (Nat.le_of_ble_eq_true rfl) (Nat.le_of_ble_eq_true rfl) rfl rfl (Nat.le_of_ble_eq_true rfl) d_Lw_law_398 hrm ?_
  generalize hq1 : s_Lw_run stp psz mp rk rv ri chk out (((Int32.toInt64 a1) <<< (Int32.toInt64 32 &&& 63)) ||| ((Int32.toInt64 a2) &&& 4294967295)) = q1 at hk ⊢
  obtain ⟨r1, mp1, rk1, rv1, ri1, out1⟩ := q1
  have hk := x_lete hk.2
  dsimp only at hk ⊢
  refine x_istore (lv' := [(5, (.int r1)), (0, (.ref b)), (1, (.ref (ad (0, 0)))), (2, (.ref (ad (18, 0)))), (3, (.ref (ad (32, 0)))), (4, (.int i))]) C d_Lw_law_401 (by decide) rfl ?_
  refine x_aload_n 3 C d_Lw_law_403 rfl rfl ?_
  refine x_aload_n 1 C d_Lw_law_404 rfl rfl ?_
  refine x_iload 5 C d_Lw_law_405 rfl ?_
  refine x_iconst (v := 1) C d_Lw_law_407 (by decide) ?_
  refine x_iadd C d_Lw_law_408 ?_
  refine x_sldE C hX hbl hbA h1 ha1 d_Lw_law_409 ?_
  refine x_i2l C d_Lw_law_410 ?_
  refine x_bipush (v := 32) C d_Lw_law_411 (by decide) ?_
  refine x_lshl C d_Lw_law_413 ?_
  refine x_aload_n 1 C d_Lw_law_414 rfl rfl ?_
  refine x_iload 5 C d_Lw_law_415 rfl ?_
  refine x_iconst (v := 2) C d_Lw_law_417 (by decide) ?_
  refine x_iadd C d_Lw_law_418 ?_
  refine x_sldE C hX hbl hbA h2 ha2 d_Lw_law_419 ?_
  refine x_i2l C d_Lw_law_420 ?_
  refine x_ldc2 (v := 4294967295) C (List.mem_cons_of_mem _ q_1065) d_Lw_law_421 ?_
  refine x_land C d_Lw_law_424 ?_
  refine x_lor C d_Lw_law_425 ?_
  refine x_cv (i := (18, 0)) (F := x_F ad cA) (As := [(.long (((Int32.toInt64 a1) <<< (Int32.toInt64 32 &&& 63)) ||| ((Int32.toInt64 a2) &&& 4294967295)))]) (rest := []) C k_Md_run q_1028 (c_Md_run ok (((Int32.toInt64 a1) <<< (Int32.toInt64 32 &&& 63)) ||| ((Int32.toInt64 a2) &&& 4294967295)) hk.1) rfl rfl rfl (Nat.le_of_ble_eq_true rfl) (Nat.le_of_ble_eq_true rfl) m_18 rfl rfl rfl rfl rfl (Nat.le_of_ble_eq_true rfl) d_Lw_law_426 hrm ?_
  generalize hq2 : s_Md_run mo mi mk mlo mhi mm (((Int32.toInt64 a1) <<< (Int32.toInt64 32 &&& 63)) ||| ((Int32.toInt64 a2) &&& 4294967295)) = q2 at hk ⊢
  obtain ⟨r2, mi2, mk2, mlo2, mhi2, mm2⟩ := q2
  have hk := x_lete hk.2
  dsimp only at hk ⊢
  refine x_lstore (lv' := [(6, (.long r2)), (5, (.int r1)), (0, (.ref b)), (1, (.ref (ad (0, 0)))), (2, (.ref (ad (18, 0)))), (3, (.ref (ad (32, 0)))), (4, (.int i))]) C d_Lw_law_429 (by decide) rfl ?_
  refine x_aload_n 4 C d_Lw_law_431 rfl rfl ?_
  refine x_cv (i := (18, 0)) (F := x_F ad cA) (As := []) (rest := []) C k_Md_thrown q_870 (c_Md_thrown ok) rfl rfl rfl (Nat.le_of_ble_eq_true rfl) (Nat.le_of_ble_eq_true rfl) m_18 rfl rfl rfl rfl rfl (Nat.le_of_ble_eq_true rfl) d_Lw_law_432 hrm ?_
  generalize hq3 : s_Md_thrown mi2 = r3 at hk ⊢
  have hk := x_lete hk.2
  refine x_iload 1 C d_Lw_law_435 rfl ?_
  refine x_gicmp_eq 442 C d_Lw_law_437 (by decide) (fun z4 => ?_) (fun z4 => ?_)
  · have hk := x_okt hk z4
    refine x_iload 1 C d_Lw_law_442 rfl ?_
    refine x_gif_ne 458 C d_Lw_law_444 (by decide) (fun z5 => ?_) (fun z5 => ?_)
    · have hk := x_okt hk z5
      refine x_aload_n 5 C d_Lw_law_447 rfl rfl ?_
      refine x_iconst (v := 0) C d_Lw_law_448 (by decide) ?_
      refine x_lald (i := (32, 0)) (g := out1) 1 C m_32 rfl rfl (x_vin (by decide)) d_Lw_law_449 ?_
      refine x_lload 0 C d_Lw_law_450 rfl ?_
      refine x_glcmp_eq 458 C d_Lw_law_452 d_Lw_law_453 (by decide) (fun z6 => ?_) (fun z6 => ?_)
      · have hk := x_okt hk z6
        refine x_goto 716 C d_Lw_law_458 (by decide) ?_
        refine x_loc (lv' := [(0, (.ref b)), (1, (.ref (ad (0, 0)))), (2, (.ref (ad (18, 0)))), (3, (.ref (ad (32, 0)))), (4, (.int i))]) [2, 3, 4, 5, 6] rfl ?_
        exact K _ hk
      · have hk := x_okf hk z6
        refine x_iconst (v := 0) C d_Lw_law_456 (by decide) ?_
        exact False.elim hk
    · have hk := x_okf hk z5
      refine x_goto 716 C d_Lw_law_458 (by decide) ?_
      refine x_loc (lv' := [(0, (.ref b)), (1, (.ref (ad (0, 0)))), (2, (.ref (ad (18, 0)))), (3, (.ref (ad (32, 0)))), (4, (.int i))]) [2, 3, 4, 5, 6] rfl ?_
      exact K _ hk
  · have hk := x_okf hk z4
    refine x_iconst (v := 0) C d_Lw_law_440 (by decide) ?_
    exact False.elim hk
def law_ok_5 (I : x_S → Prop) (stp : Nat → Nat → Int32) (psz : Int32) (gk : Nat → Nat → Int32) (gl : Nat → Nat → Int64) (gh : Nat → Nat → Int64) (opn : Nat → Int32) (cki : Nat → Int32) (ckl : Nat → Int64) (mp : Nat → Nat → Int64) (rk : Nat → Int32) (rv : Nat → Int64) (ri : Nat → Int32) (chk : Int32) (mo : Nat → Nat → Int32) (mi : Nat → Int32) (ml : Nat → Int64) (mk : Nat → Int32) (mlo : Nat → Int64) (mhi : Nat → Int64) (pk : Nat → Int32) (ps : Nat → Int32) (pl : Nat → Int64) (ph : Nat → Int64) (mm : Nat → Int64) (out : Nat → Int64) (a1 : Int32) (a2 : Int32) : Prop :=
  (True ∧ x_let (s_Lw_row mp out a1 a2) fun (r1, out1) => (k_ok_Md_row mi mm a1 a2 ∧ x_let (s_Md_row mi mm a1 a2) fun (r2, mi2) => (True ∧ x_let (s_Md_thrown mi2) fun r3 => (if r3 = r1 then (if r1 = 0 then (if (out1 (Int32.toNatClampNeg 0)) = r2 then I ((stp, psz, gk, gl, gh, opn, cki, ckl, mp, rk, rv, ri, chk), (mo, mi2, ml, mk, mlo, mhi, pk, ps, pl, ph, mm), out1) else False) else I ((stp, psz, gk, gl, gh, opn, cki, ckl, mp, rk, rv, ri, chk), (mo, mi2, ml, mk, mlo, mhi, pk, ps, pl, ph, mm), out1)) else False))))
set_option maxHeartbeats 4000000 in
set_option maxRecDepth 100000 in
theorem law_arm_5 {l : Launch} (htr : l.stackTraces = false) {D : va_G} {cA : Nat → ClassId} {ad : x_I → Nat} (ok : x_ok (x_k D cA ad)) {p : Program} {e : Env} {s : State} {m : MethodId} {args : Array Value} {below : List Frame} {meth : Method} {c : Code} {cells slots : Nat} {Q : State → Prop} {b L : Nat} {xs : Nat → Int32} {i : Int32} {w0 : Cond} (C : x_C p s m args c b_Lw_law 8 R_Lw (w0 :: x_Wd) (x_k D cA ad)) (hX : va_X b L xs s s.heap) (hbl : b < s.heap.size) (hbA : ¬ x_A (x_k D cA ad) s.heap.size b) (hg : x_G s) (hj : x_J s) (hap : ∀ q : Nat, q < s.heap.size → ¬ x_A (x_k D cA ad) s.heap.size q) (hrm : cells + 1 ≤ room_1.cells ∧ slots + 6 ≤ room_1.slots) (I : x_S → Prop) (stp : Nat → Nat → Int32) (psz : Int32) (gk : Nat → Nat → Int32) (gl : Nat → Nat → Int64) (gh : Nat → Nat → Int64) (opn : Nat → Int32) (cki : Nat → Int32) (ckl : Nat → Int64) (mp : Nat → Nat → Int64) (rk : Nat → Int32) (rv : Nat → Int64) (ri : Nat → Int32) (chk : Int32) (mo : Nat → Nat → Int32) (mi : Nat → Int32) (ml : Nat → Int64) (mk : Nat → Int32) (mlo : Nat → Int64) (mhi : Nat → Int64) (pk : Nat → Int32) (ps : Nat → Int32) (pl : Nat → Int64) (ph : Nat → Int64) (mm : Nat → Int64) (out : Nat → Int64) (a1 : Int32) (a2 : Int32) (h1 : vp_in (i + 1) L) (ha1 : xs (Int32.toNatClampNeg (i + 1)) = a1) (h2 : vp_in (i + 2) L) (ha2 : xs (Int32.toNatClampNeg (i + 2)) = a2) (K : ∀ st : x_S, I st → x_V p l e room_1 s m args below meth c (x_k D cA ad) 8 (cells + 1) (slots + 6) Q (x_F ad cA st) 716 [(0, (.ref b)), (1, (.ref (ad (0, 0)))), (2, (.ref (ad (18, 0)))), (3, (.ref (ad (32, 0)))), (4, (.int i))] []) (hk : law_ok_5 I stp psz gk gl gh opn cki ckl mp rk rv ri chk mo mi ml mk mlo mhi pk ps pl ph mm out a1 a2) : x_V p l e room_1 s m args below meth c (x_k D cA ad) 8 cells slots Q (x_F ad cA ((stp, psz, gk, gl, gh, opn, cki, ckl, mp, rk, rv, ri, chk), (mo, mi, ml, mk, mlo, mhi, pk, ps, pl, ph, mm), out)) 461 [(0, (.ref b)), (1, (.ref (ad (0, 0)))), (2, (.ref (ad (18, 0)))), (3, (.ref (ad (32, 0)))), (4, (.int i))] [] := by
  unfold law_ok_5 at hk
  refine x_aload_n 1 C d_Lw_law_461 rfl rfl ?_
  refine x_aload_n 0 C d_Lw_law_462 rfl rfl ?_
  refine x_iload 4 C d_Lw_law_463 rfl ?_
  refine x_iconst (v := 1) C d_Lw_law_465 (by decide) ?_
  refine x_iadd C d_Lw_law_466 ?_
  refine x_sldE C hX hbl hbA h1 ha1 d_Lw_law_467 ?_
  refine x_aload_n 0 C d_Lw_law_468 rfl rfl ?_
  refine x_iload 4 C d_Lw_law_469 rfl ?_
  refine x_iconst (v := 2) C d_Lw_law_471 (by decide) ?_
  refine x_iadd C d_Lw_law_472 ?_
  refine x_sldE C hX hbl hbA h2 ha2 d_Lw_law_473 ?_
  refine x_aload_n 3 C d_Lw_law_474 rfl rfl ?_
  refine x_csH (F := x_F ad cA) (As := [(.ref (ad (0, 0))), (.int a1), (.int a2), (.ref (ad (32, 0)))]) (rest := []) C k_Lw_row q_752 (c_Lw_row htr ok a1 a2) rfl hg hj hap rfl rfl (Nat.le_of_ble_eq_true rfl) (Nat.le_of_ble_eq_true rfl) rfl rfl (Nat.le_of_ble_eq_true rfl) d_Lw_law_475 hrm ?_
  generalize hq1 : s_Lw_row mp out a1 a2 = q1 at hk ⊢
  obtain ⟨r1, out1⟩ := q1
  have hk := x_lete hk.2
  dsimp only at hk ⊢
  refine x_istore (lv' := [(5, (.int r1)), (0, (.ref b)), (1, (.ref (ad (0, 0)))), (2, (.ref (ad (18, 0)))), (3, (.ref (ad (32, 0)))), (4, (.int i))]) C d_Lw_law_478 (by decide) rfl ?_
  refine x_aload_n 3 C d_Lw_law_480 rfl rfl ?_
  refine x_aload_n 1 C d_Lw_law_481 rfl rfl ?_
  refine x_iload 5 C d_Lw_law_482 rfl ?_
  refine x_iconst (v := 1) C d_Lw_law_484 (by decide) ?_
  refine x_iadd C d_Lw_law_485 ?_
  refine x_sldE C hX hbl hbA h1 ha1 d_Lw_law_486 ?_
  refine x_aload_n 1 C d_Lw_law_487 rfl rfl ?_
  refine x_iload 5 C d_Lw_law_488 rfl ?_
  refine x_iconst (v := 2) C d_Lw_law_490 (by decide) ?_
  refine x_iadd C d_Lw_law_491 ?_
  refine x_sldE C hX hbl hbA h2 ha2 d_Lw_law_492 ?_
  refine x_cv (i := (18, 0)) (F := x_F ad cA) (As := [(.int a1), (.int a2)]) (rest := []) C k_Md_row q_1049 (c_Md_row ok a1 a2 hk.1) rfl rfl rfl (Nat.le_of_ble_eq_true rfl) (Nat.le_of_ble_eq_true rfl) m_18 rfl rfl rfl rfl rfl (Nat.le_of_ble_eq_true rfl) d_Lw_law_493 hrm ?_
  generalize hq2 : s_Md_row mi mm a1 a2 = q2 at hk ⊢
  obtain ⟨r2, mi2⟩ := q2
  have hk := x_lete hk.2
  dsimp only at hk ⊢
  refine x_lstore (lv' := [(6, (.long r2)), (5, (.int r1)), (0, (.ref b)), (1, (.ref (ad (0, 0)))), (2, (.ref (ad (18, 0)))), (3, (.ref (ad (32, 0)))), (4, (.int i))]) C d_Lw_law_496 (by decide) rfl ?_
  refine x_aload_n 4 C d_Lw_law_498 rfl rfl ?_
  refine x_cv (i := (18, 0)) (F := x_F ad cA) (As := []) (rest := []) C k_Md_thrown q_870 (c_Md_thrown ok) rfl rfl rfl (Nat.le_of_ble_eq_true rfl) (Nat.le_of_ble_eq_true rfl) m_18 rfl rfl rfl rfl rfl (Nat.le_of_ble_eq_true rfl) d_Lw_law_499 hrm ?_
  generalize hq3 : s_Md_thrown mi2 = r3 at hk ⊢
  have hk := x_lete hk.2
  refine x_iload 1 C d_Lw_law_502 rfl ?_
  refine x_gicmp_eq 509 C d_Lw_law_504 (by decide) (fun z4 => ?_) (fun z4 => ?_)
  · have hk := x_okt hk z4
    refine x_iload 1 C d_Lw_law_509 rfl ?_
    refine x_gif_ne 525 C d_Lw_law_511 (by decide) (fun z5 => ?_) (fun z5 => ?_)
    · have hk := x_okt hk z5
      refine x_aload_n 5 C d_Lw_law_514 rfl rfl ?_
      refine x_iconst (v := 0) C d_Lw_law_515 (by decide) ?_
      refine x_lald (i := (32, 0)) (g := out1) 1 C m_32 rfl rfl (x_vin (by decide)) d_Lw_law_516 ?_
      refine x_lload 0 C d_Lw_law_517 rfl ?_
      refine x_glcmp_eq 525 C d_Lw_law_519 d_Lw_law_520 (by decide) (fun z6 => ?_) (fun z6 => ?_)
      · have hk := x_okt hk z6
        refine x_goto 716 C d_Lw_law_525 (by decide) ?_
        refine x_loc (lv' := [(0, (.ref b)), (1, (.ref (ad (0, 0)))), (2, (.ref (ad (18, 0)))), (3, (.ref (ad (32, 0)))), (4, (.int i))]) [2, 3, 4, 5, 6] rfl ?_
        exact K _ hk
      · have hk := x_okf hk z6
        refine x_iconst (v := 0) C d_Lw_law_523 (by decide) ?_
        exact False.elim hk
    · have hk := x_okf hk z5
      refine x_goto 716 C d_Lw_law_525 (by decide) ?_
      refine x_loc (lv' := [(0, (.ref b)), (1, (.ref (ad (0, 0)))), (2, (.ref (ad (18, 0)))), (3, (.ref (ad (32, 0)))), (4, (.int i))]) [2, 3, 4, 5, 6] rfl ?_
      exact K _ hk
  · have hk := x_okf hk z4
    refine x_iconst (v := 0) C d_Lw_law_507 (by decide) ?_
    exact False.elim hk
def law_ok_6 (I : x_S → Prop) (stp : Nat → Nat → Int32) (psz : Int32) (gk : Nat → Nat → Int32) (gl : Nat → Nat → Int64) (gh : Nat → Nat → Int64) (opn : Nat → Int32) (cki : Nat → Int32) (ckl : Nat → Int64) (mp : Nat → Nat → Int64) (rk : Nat → Int32) (rv : Nat → Int64) (ri : Nat → Int32) (chk : Int32) (mo : Nat → Nat → Int32) (mi : Nat → Int32) (ml : Nat → Int64) (mk : Nat → Int32) (mlo : Nat → Int64) (mhi : Nat → Int64) (pk : Nat → Int32) (ps : Nat → Int32) (pl : Nat → Int64) (ph : Nat → Int64) (mm : Nat → Int64) (out : Nat → Int64) (a1 : Int32) (a2 : Int32) (a3 : Int32) (a4 : Int32) : Prop :=
  (True ∧ x_let (s_Lw_fill mp a1 a2 (((Int32.toInt64 a3) <<< (Int32.toInt64 32 &&& 63)) ||| ((Int32.toInt64 a4) &&& 4294967295))) fun (r1, mp1) => (k_ok_Md_fill mi mm a1 a2 (((Int32.toInt64 a3) <<< (Int32.toInt64 32 &&& 63)) ||| ((Int32.toInt64 a4) &&& 4294967295)) ∧ x_let (s_Md_fill mi mm a1 a2 (((Int32.toInt64 a3) <<< (Int32.toInt64 32 &&& 63)) ||| ((Int32.toInt64 a4) &&& 4294967295))) fun (mi2, mm2) => (True ∧ x_let (s_Md_thrown mi2) fun r3 => (if r3 = r1 then I ((stp, psz, gk, gl, gh, opn, cki, ckl, mp1, rk, rv, ri, chk), (mo, mi2, ml, mk, mlo, mhi, pk, ps, pl, ph, mm2), out) else False))))
set_option maxHeartbeats 4000000 in
set_option maxRecDepth 100000 in
theorem law_arm_6 {l : Launch} (htr : l.stackTraces = false) {D : va_G} {cA : Nat → ClassId} {ad : x_I → Nat} (ok : x_ok (x_k D cA ad)) {p : Program} {e : Env} {s : State} {m : MethodId} {args : Array Value} {below : List Frame} {meth : Method} {c : Code} {cells slots : Nat} {Q : State → Prop} {b L : Nat} {xs : Nat → Int32} {i : Int32} {w0 : Cond} (C : x_C p s m args c b_Lw_law 8 R_Lw (w0 :: x_Wd) (x_k D cA ad)) (hX : va_X b L xs s s.heap) (hbl : b < s.heap.size) (hbA : ¬ x_A (x_k D cA ad) s.heap.size b) (hg : x_G s) (hj : x_J s) (hap : ∀ q : Nat, q < s.heap.size → ¬ x_A (x_k D cA ad) s.heap.size q) (hrm : cells + 1 ≤ room_1.cells ∧ slots + 6 ≤ room_1.slots) (I : x_S → Prop) (stp : Nat → Nat → Int32) (psz : Int32) (gk : Nat → Nat → Int32) (gl : Nat → Nat → Int64) (gh : Nat → Nat → Int64) (opn : Nat → Int32) (cki : Nat → Int32) (ckl : Nat → Int64) (mp : Nat → Nat → Int64) (rk : Nat → Int32) (rv : Nat → Int64) (ri : Nat → Int32) (chk : Int32) (mo : Nat → Nat → Int32) (mi : Nat → Int32) (ml : Nat → Int64) (mk : Nat → Int32) (mlo : Nat → Int64) (mhi : Nat → Int64) (pk : Nat → Int32) (ps : Nat → Int32) (pl : Nat → Int64) (ph : Nat → Int64) (mm : Nat → Int64) (out : Nat → Int64) (a1 : Int32) (a2 : Int32) (a3 : Int32) (a4 : Int32) (h1 : vp_in (i + 1) L) (ha1 : xs (Int32.toNatClampNeg (i + 1)) = a1) (h2 : vp_in (i + 2) L) (ha2 : xs (Int32.toNatClampNeg (i + 2)) = a2) (h3 : vp_in (i + 3) L) (ha3 : xs (Int32.toNatClampNeg (i + 3)) = a3) (h4 : vp_in (i + 4) L) (ha4 : xs (Int32.toNatClampNeg (i + 4)) = a4) (K : ∀ st : x_S, I st → x_V p l e room_1 s m args below meth c (x_k D cA ad) 8 (cells + 1) (slots + 6) Q (x_F ad cA st) 716 [(0, (.ref b)), (1, (.ref (ad (0, 0)))), (2, (.ref (ad (18, 0)))), (3, (.ref (ad (32, 0)))), (4, (.int i))] []) (hk : law_ok_6 I stp psz gk gl gh opn cki ckl mp rk rv ri chk mo mi ml mk mlo mhi pk ps pl ph mm out a1 a2 a3 a4) : x_V p l e room_1 s m args below meth c (x_k D cA ad) 8 cells slots Q (x_F ad cA ((stp, psz, gk, gl, gh, opn, cki, ckl, mp, rk, rv, ri, chk), (mo, mi, ml, mk, mlo, mhi, pk, ps, pl, ph, mm), out)) 528 [(0, (.ref b)), (1, (.ref (ad (0, 0)))), (2, (.ref (ad (18, 0)))), (3, (.ref (ad (32, 0)))), (4, (.int i))] [] := by
  unfold law_ok_6 at hk
  refine x_aload_n 1 C d_Lw_law_528 rfl rfl ?_
  refine x_aload_n 0 C d_Lw_law_529 rfl rfl ?_
  refine x_iload 4 C d_Lw_law_530 rfl ?_
  refine x_iconst (v := 1) C d_Lw_law_532 (by decide) ?_
  refine x_iadd C d_Lw_law_533 ?_
  refine x_sldE C hX hbl hbA h1 ha1 d_Lw_law_534 ?_
  refine x_aload_n 0 C d_Lw_law_535 rfl rfl ?_
  refine x_iload 4 C d_Lw_law_536 rfl ?_
  refine x_iconst (v := 2) C d_Lw_law_538 (by decide) ?_
  refine x_iadd C d_Lw_law_539 ?_
  refine x_sldE C hX hbl hbA h2 ha2 d_Lw_law_540 ?_
  refine x_aload_n 0 C d_Lw_law_541 rfl rfl ?_
  refine x_iload 4 C d_Lw_law_542 rfl ?_
  refine x_iconst (v := 3) C d_Lw_law_544 (by decide) ?_
  refine x_iadd C d_Lw_law_545 ?_
  refine x_sldE C hX hbl hbA h3 ha3 d_Lw_law_546 ?_
  refine x_i2l C d_Lw_law_547 ?_
  refine x_bipush (v := 32) C d_Lw_law_548 (by decide) ?_
  refine x_lshl C d_Lw_law_550 ?_
  refine x_aload_n 0 C d_Lw_law_551 rfl rfl ?_
  refine x_iload 4 C d_Lw_law_552 rfl ?_
  refine x_iconst (v := 4) C d_Lw_law_554 (by decide) ?_
  refine x_iadd C d_Lw_law_555 ?_
  refine x_sldE C hX hbl hbA h4 ha4 d_Lw_law_556 ?_
  refine x_i2l C d_Lw_law_557 ?_
  refine x_ldc2 (v := 4294967295) C (List.mem_cons_of_mem _ q_1065) d_Lw_law_558 ?_
  refine x_land C d_Lw_law_561 ?_
  refine x_lor C d_Lw_law_562 ?_
  refine x_csH (F := x_F ad cA) (As := [(.ref (ad (0, 0))), (.int a1), (.int a2), (.long (((Int32.toInt64 a3) <<< (Int32.toInt64 32 &&& 63)) ||| ((Int32.toInt64 a4) &&& 4294967295)))]) (rest := []) C k_Lw_fill q_762 (c_Lw_fill htr ok a1 a2 (((Int32.toInt64 a3) <<< (Int32.toInt64 32 &&& 63)) ||| ((Int32.toInt64 a4) &&& 4294967295))) rfl hg hj hap rfl rfl (Nat.le_of_ble_eq_true rfl) (Nat.le_of_ble_eq_true rfl) rfl rfl (Nat.le_of_ble_eq_true rfl) d_Lw_law_563 hrm ?_
  generalize hq1 : s_Lw_fill mp a1 a2 (((Int32.toInt64 a3) <<< (Int32.toInt64 32 &&& 63)) ||| ((Int32.toInt64 a4) &&& 4294967295)) = q1 at hk ⊢
  obtain ⟨r1, mp1⟩ := q1
  have hk := x_lete hk.2
  dsimp only at hk ⊢
  refine x_istore (lv' := [(5, (.int r1)), (0, (.ref b)), (1, (.ref (ad (0, 0)))), (2, (.ref (ad (18, 0)))), (3, (.ref (ad (32, 0)))), (4, (.int i))]) C d_Lw_law_566 (by decide) rfl ?_
  refine x_aload_n 3 C d_Lw_law_568 rfl rfl ?_
  refine x_aload_n 1 C d_Lw_law_569 rfl rfl ?_
  refine x_iload 5 C d_Lw_law_570 rfl ?_
  refine x_iconst (v := 1) C d_Lw_law_572 (by decide) ?_
  refine x_iadd C d_Lw_law_573 ?_
  refine x_sldE C hX hbl hbA h1 ha1 d_Lw_law_574 ?_
  refine x_aload_n 1 C d_Lw_law_575 rfl rfl ?_
  refine x_iload 5 C d_Lw_law_576 rfl ?_
  refine x_iconst (v := 2) C d_Lw_law_578 (by decide) ?_
  refine x_iadd C d_Lw_law_579 ?_
  refine x_sldE C hX hbl hbA h2 ha2 d_Lw_law_580 ?_
  refine x_aload_n 1 C d_Lw_law_581 rfl rfl ?_
  refine x_iload 5 C d_Lw_law_582 rfl ?_
  refine x_iconst (v := 3) C d_Lw_law_584 (by decide) ?_
  refine x_iadd C d_Lw_law_585 ?_
  refine x_sldE C hX hbl hbA h3 ha3 d_Lw_law_586 ?_
  refine x_i2l C d_Lw_law_587 ?_
  refine x_bipush (v := 32) C d_Lw_law_588 (by decide) ?_
  refine x_lshl C d_Lw_law_590 ?_
  refine x_aload_n 1 C d_Lw_law_591 rfl rfl ?_
  refine x_iload 5 C d_Lw_law_592 rfl ?_
  refine x_iconst (v := 4) C d_Lw_law_594 (by decide) ?_
  refine x_iadd C d_Lw_law_595 ?_
  refine x_sldE C hX hbl hbA h4 ha4 d_Lw_law_596 ?_
  refine x_i2l C d_Lw_law_597 ?_
  refine x_ldc2 (v := 4294967295) C (List.mem_cons_of_mem _ q_1065) d_Lw_law_598 ?_
  refine x_land C d_Lw_law_601 ?_
  refine x_lor C d_Lw_law_602 ?_
  refine x_cv0 (i := (18, 0)) (F := x_F ad cA) (As := [(.int a1), (.int a2), (.long (((Int32.toInt64 a3) <<< (Int32.toInt64 32 &&& 63)) ||| ((Int32.toInt64 a4) &&& 4294967295)))]) (rest := []) C k_Md_fill q_1053 (c_Md_fill ok a1 a2 (((Int32.toInt64 a3) <<< (Int32.toInt64 32 &&& 63)) ||| ((Int32.toInt64 a4) &&& 4294967295)) hk.1) rfl rfl rfl (Nat.le_of_ble_eq_true rfl) (Nat.le_of_ble_eq_true rfl) m_18 rfl rfl rfl rfl rfl (Nat.le_of_ble_eq_true rfl) d_Lw_law_603 hrm ?_
  generalize hq2 : s_Md_fill mi mm a1 a2 (((Int32.toInt64 a3) <<< (Int32.toInt64 32 &&& 63)) ||| ((Int32.toInt64 a4) &&& 4294967295)) = q2 at hk ⊢
  obtain ⟨mi2, mm2⟩ := q2
  have hk := x_lete hk.2
  dsimp only at hk ⊢
  refine x_aload_n 3 C d_Lw_law_606 rfl rfl ?_
  refine x_cv (i := (18, 0)) (F := x_F ad cA) (As := []) (rest := []) C k_Md_thrown q_870 (c_Md_thrown ok) rfl rfl rfl (Nat.le_of_ble_eq_true rfl) (Nat.le_of_ble_eq_true rfl) m_18 rfl rfl rfl rfl rfl (Nat.le_of_ble_eq_true rfl) d_Lw_law_607 hrm ?_
  generalize hq3 : s_Md_thrown mi2 = r3 at hk ⊢
  have hk := x_lete hk.2
  refine x_iload 0 C d_Lw_law_610 rfl ?_
  refine x_gicmp_eq 617 C d_Lw_law_612 (by decide) (fun z4 => ?_) (fun z4 => ?_)
  · have hk := x_okt hk z4
    refine x_goto 716 C d_Lw_law_617 (by decide) ?_
    refine x_loc (lv' := [(0, (.ref b)), (1, (.ref (ad (0, 0)))), (2, (.ref (ad (18, 0)))), (3, (.ref (ad (32, 0)))), (4, (.int i))]) [1, 2, 3, 4, 5] rfl ?_
    exact K _ hk
  · have hk := x_okf hk z4
    refine x_iconst (v := 0) C d_Lw_law_615 (by decide) ?_
    exact False.elim hk
def law_ok_7 (I : x_S → Prop) (stp : Nat → Nat → Int32) (psz : Int32) (gk : Nat → Nat → Int32) (gl : Nat → Nat → Int64) (gh : Nat → Nat → Int64) (opn : Nat → Int32) (cki : Nat → Int32) (ckl : Nat → Int64) (mp : Nat → Nat → Int64) (rk : Nat → Int32) (rv : Nat → Int64) (ri : Nat → Int32) (chk : Int32) (mo : Nat → Nat → Int32) (mi : Nat → Int32) (ml : Nat → Int64) (mk : Nat → Int32) (mlo : Nat → Int64) (mhi : Nat → Int64) (pk : Nat → Int32) (ps : Nat → Int32) (pl : Nat → Int64) (ph : Nat → Int64) (mm : Nat → Int64) (out : Nat → Int64) (a1 : Int32) : Prop :=
  (if a1 = 0 then (True ∧ x_let (s_Lw_outcome ckl chk out 0) fun (r2, out2) => (if a1 = 0 then (True ∧ x_let (s_Md_outcome mi ml 0) fun (r4, mi4) => (True ∧ x_let (s_Md_thrown mi4) fun r5 => (if r5 = r2 then (if r2 = 0 then (if (out2 (Int32.toNatClampNeg 0)) = r4 then I ((stp, psz, gk, gl, gh, opn, cki, ckl, mp, rk, rv, ri, chk), (mo, mi4, ml, mk, mlo, mhi, pk, ps, pl, ph, mm), out2) else False) else I ((stp, psz, gk, gl, gh, opn, cki, ckl, mp, rk, rv, ri, chk), (mo, mi4, ml, mk, mlo, mhi, pk, ps, pl, ph, mm), out2)) else False))) else (True ∧ x_let (s_Md_outcome mi ml 1) fun (r9, mi9) => (True ∧ x_let (s_Md_thrown mi9) fun r10 => (if r10 = r2 then (if r2 = 0 then (if (out2 (Int32.toNatClampNeg 0)) = r9 then I ((stp, psz, gk, gl, gh, opn, cki, ckl, mp, rk, rv, ri, chk), (mo, mi9, ml, mk, mlo, mhi, pk, ps, pl, ph, mm), out2) else False) else I ((stp, psz, gk, gl, gh, opn, cki, ckl, mp, rk, rv, ri, chk), (mo, mi9, ml, mk, mlo, mhi, pk, ps, pl, ph, mm), out2)) else False))))) else (True ∧ x_let (s_Lw_outcome ckl chk out 1) fun (r14, out14) => (if a1 = 0 then (True ∧ x_let (s_Md_outcome mi ml 0) fun (r16, mi16) => (True ∧ x_let (s_Md_thrown mi16) fun r17 => (if r17 = r14 then (if r14 = 0 then (if (out14 (Int32.toNatClampNeg 0)) = r16 then I ((stp, psz, gk, gl, gh, opn, cki, ckl, mp, rk, rv, ri, chk), (mo, mi16, ml, mk, mlo, mhi, pk, ps, pl, ph, mm), out14) else False) else I ((stp, psz, gk, gl, gh, opn, cki, ckl, mp, rk, rv, ri, chk), (mo, mi16, ml, mk, mlo, mhi, pk, ps, pl, ph, mm), out14)) else False))) else (True ∧ x_let (s_Md_outcome mi ml 1) fun (r21, mi21) => (True ∧ x_let (s_Md_thrown mi21) fun r22 => (if r22 = r14 then (if r14 = 0 then (if (out14 (Int32.toNatClampNeg 0)) = r21 then I ((stp, psz, gk, gl, gh, opn, cki, ckl, mp, rk, rv, ri, chk), (mo, mi21, ml, mk, mlo, mhi, pk, ps, pl, ph, mm), out14) else False) else I ((stp, psz, gk, gl, gh, opn, cki, ckl, mp, rk, rv, ri, chk), (mo, mi21, ml, mk, mlo, mhi, pk, ps, pl, ph, mm), out14)) else False))))))
set_option maxHeartbeats 4000000 in
set_option maxRecDepth 100000 in
theorem law_arm_7 {l : Launch} (htr : l.stackTraces = false) {D : va_G} {cA : Nat → ClassId} {ad : x_I → Nat} (ok : x_ok (x_k D cA ad)) {p : Program} {e : Env} {s : State} {m : MethodId} {args : Array Value} {below : List Frame} {meth : Method} {c : Code} {cells slots : Nat} {Q : State → Prop} {b L : Nat} {xs : Nat → Int32} {i : Int32} {w0 : Cond} (C : x_C p s m args c b_Lw_law 8 R_Lw (w0 :: x_Wd) (x_k D cA ad)) (hX : va_X b L xs s s.heap) (hbl : b < s.heap.size) (hbA : ¬ x_A (x_k D cA ad) s.heap.size b) (hg : x_G s) (hj : x_J s) (hap : ∀ q : Nat, q < s.heap.size → ¬ x_A (x_k D cA ad) s.heap.size q) (hrm : cells + 1 ≤ room_1.cells ∧ slots + 6 ≤ room_1.slots) (I : x_S → Prop) (stp : Nat → Nat → Int32) (psz : Int32) (gk : Nat → Nat → Int32) (gl : Nat → Nat → Int64) (gh : Nat → Nat → Int64) (opn : Nat → Int32) (cki : Nat → Int32) (ckl : Nat → Int64) (mp : Nat → Nat → Int64) (rk : Nat → Int32) (rv : Nat → Int64) (ri : Nat → Int32) (chk : Int32) (mo : Nat → Nat → Int32) (mi : Nat → Int32) (ml : Nat → Int64) (mk : Nat → Int32) (mlo : Nat → Int64) (mhi : Nat → Int64) (pk : Nat → Int32) (ps : Nat → Int32) (pl : Nat → Int64) (ph : Nat → Int64) (mm : Nat → Int64) (out : Nat → Int64) (a1 : Int32) (h1 : vp_in (i + 1) L) (ha1 : xs (Int32.toNatClampNeg (i + 1)) = a1) (K : ∀ st : x_S, I st → x_V p l e room_1 s m args below meth c (x_k D cA ad) 8 (cells + 1) (slots + 6) Q (x_F ad cA st) 716 [(0, (.ref b)), (1, (.ref (ad (0, 0)))), (2, (.ref (ad (18, 0)))), (3, (.ref (ad (32, 0)))), (4, (.int i))] []) (hk : law_ok_7 I stp psz gk gl gh opn cki ckl mp rk rv ri chk mo mi ml mk mlo mhi pk ps pl ph mm out a1) : x_V p l e room_1 s m args below meth c (x_k D cA ad) 8 cells slots Q (x_F ad cA ((stp, psz, gk, gl, gh, opn, cki, ckl, mp, rk, rv, ri, chk), (mo, mi, ml, mk, mlo, mhi, pk, ps, pl, ph, mm), out)) 620 [(0, (.ref b)), (1, (.ref (ad (0, 0)))), (2, (.ref (ad (18, 0)))), (3, (.ref (ad (32, 0)))), (4, (.int i))] [] := by
  unfold law_ok_7 at hk
  refine x_aload_n 1 C d_Lw_law_620 rfl rfl ?_
  refine x_aload_n 0 C d_Lw_law_621 rfl rfl ?_
  refine x_iload 4 C d_Lw_law_622 rfl ?_
  refine x_iconst (v := 1) C d_Lw_law_624 (by decide) ?_
  refine x_iadd C d_Lw_law_625 ?_
  refine x_sldE C hX hbl hbA h1 ha1 d_Lw_law_626 ?_
  refine x_gif_eq 634 C d_Lw_law_627 (by decide) (fun z1 => ?_) (fun z1 => ?_)
  · have hk := x_okt hk z1
    refine x_iconst (v := 0) C d_Lw_law_634 (by decide) ?_
    refine x_aload_n 3 C d_Lw_law_635 rfl rfl ?_
    refine x_csH (F := x_F ad cA) (As := [(.ref (ad (0, 0))), (.int 0), (.ref (ad (32, 0)))]) (rest := []) C k_Lw_outcome q_770 (c_Lw_outcome htr ok 0) rfl hg hj hap rfl rfl (Nat.le_of_ble_eq_true rfl) (Nat.le_of_ble_eq_true rfl) rfl rfl (Nat.le_of_ble_eq_true rfl) d_Lw_law_636 hrm ?_
    generalize hq2 : s_Lw_outcome ckl chk out 0 = q2 at hk ⊢
    obtain ⟨r2, out2⟩ := q2
    have hk := x_lete hk.2
    dsimp only at hk ⊢
    refine x_istore (lv' := [(5, (.int r2)), (0, (.ref b)), (1, (.ref (ad (0, 0)))), (2, (.ref (ad (18, 0)))), (3, (.ref (ad (32, 0)))), (4, (.int i))]) C d_Lw_law_639 (by decide) rfl ?_
    refine x_aload_n 3 C d_Lw_law_641 rfl rfl ?_
    refine x_aload_n 1 C d_Lw_law_642 rfl rfl ?_
    refine x_iload 5 C d_Lw_law_643 rfl ?_
    refine x_iconst (v := 1) C d_Lw_law_645 (by decide) ?_
    refine x_iadd C d_Lw_law_646 ?_
    refine x_sldE C hX hbl hbA h1 ha1 d_Lw_law_647 ?_
    refine x_gif_eq 655 C d_Lw_law_648 (by decide) (fun z3 => ?_) (fun z3 => ?_)
    · have hk := x_okt hk z3
      refine x_iconst (v := 0) C d_Lw_law_655 (by decide) ?_
      refine x_cv (i := (18, 0)) (F := x_F ad cA) (As := [(.int 0)]) (rest := []) C k_Md_outcome q_1057 (c_Md_outcome ok 0) rfl rfl rfl (Nat.le_of_ble_eq_true rfl) (Nat.le_of_ble_eq_true rfl) m_18 rfl rfl rfl rfl rfl (Nat.le_of_ble_eq_true rfl) d_Lw_law_656 hrm ?_
      generalize hq4 : s_Md_outcome mi ml 0 = q4 at hk ⊢
      obtain ⟨r4, mi4⟩ := q4
      have hk := x_lete hk.2
      dsimp only at hk ⊢
      refine x_lstore (lv' := [(6, (.long r4)), (5, (.int r2)), (0, (.ref b)), (1, (.ref (ad (0, 0)))), (2, (.ref (ad (18, 0)))), (3, (.ref (ad (32, 0)))), (4, (.int i))]) C d_Lw_law_659 (by decide) rfl ?_
      refine x_aload_n 4 C d_Lw_law_661 rfl rfl ?_
      refine x_cv (i := (18, 0)) (F := x_F ad cA) (As := []) (rest := []) C k_Md_thrown q_870 (c_Md_thrown ok) rfl rfl rfl (Nat.le_of_ble_eq_true rfl) (Nat.le_of_ble_eq_true rfl) m_18 rfl rfl rfl rfl rfl (Nat.le_of_ble_eq_true rfl) d_Lw_law_662 hrm ?_
      generalize hq5 : s_Md_thrown mi4 = r5 at hk ⊢
      have hk := x_lete hk.2
      refine x_iload 1 C d_Lw_law_665 rfl ?_
      refine x_gicmp_eq 672 C d_Lw_law_667 (by decide) (fun z6 => ?_) (fun z6 => ?_)
      · have hk := x_okt hk z6
        refine x_iload 1 C d_Lw_law_672 rfl ?_
        refine x_gif_ne 688 C d_Lw_law_674 (by decide) (fun z7 => ?_) (fun z7 => ?_)
        · have hk := x_okt hk z7
          refine x_aload_n 5 C d_Lw_law_677 rfl rfl ?_
          refine x_iconst (v := 0) C d_Lw_law_678 (by decide) ?_
          refine x_lald (i := (32, 0)) (g := out2) 1 C m_32 rfl rfl (x_vin (by decide)) d_Lw_law_679 ?_
          refine x_lload 0 C d_Lw_law_680 rfl ?_
          refine x_glcmp_eq 688 C d_Lw_law_682 d_Lw_law_683 (by decide) (fun z8 => ?_) (fun z8 => ?_)
          · have hk := x_okt hk z8
            refine x_goto 716 C d_Lw_law_688 (by decide) ?_
            refine x_loc (lv' := [(0, (.ref b)), (1, (.ref (ad (0, 0)))), (2, (.ref (ad (18, 0)))), (3, (.ref (ad (32, 0)))), (4, (.int i))]) [2, 3, 4, 5, 6] rfl ?_
            exact K _ hk
          · have hk := x_okf hk z8
            refine x_iconst (v := 0) C d_Lw_law_686 (by decide) ?_
            exact False.elim hk
        · have hk := x_okf hk z7
          refine x_goto 716 C d_Lw_law_688 (by decide) ?_
          refine x_loc (lv' := [(0, (.ref b)), (1, (.ref (ad (0, 0)))), (2, (.ref (ad (18, 0)))), (3, (.ref (ad (32, 0)))), (4, (.int i))]) [2, 3, 4, 5, 6] rfl ?_
          exact K _ hk
      · have hk := x_okf hk z6
        refine x_iconst (v := 0) C d_Lw_law_670 (by decide) ?_
        exact False.elim hk
    · have hk := x_okf hk z3
      refine x_iconst (v := 1) C d_Lw_law_651 (by decide) ?_
      refine x_goto 656 C d_Lw_law_652 (by decide) ?_
      refine x_cv (i := (18, 0)) (F := x_F ad cA) (As := [(.int 1)]) (rest := []) C k_Md_outcome q_1057 (c_Md_outcome ok 1) rfl rfl rfl (Nat.le_of_ble_eq_true rfl) (Nat.le_of_ble_eq_true rfl) m_18 rfl rfl rfl rfl rfl (Nat.le_of_ble_eq_true rfl) d_Lw_law_656 hrm ?_
      generalize hq9 : s_Md_outcome mi ml 1 = q9 at hk ⊢
      obtain ⟨r9, mi9⟩ := q9
      have hk := x_lete hk.2
      dsimp only at hk ⊢
      refine x_lstore (lv' := [(6, (.long r9)), (5, (.int r2)), (0, (.ref b)), (1, (.ref (ad (0, 0)))), (2, (.ref (ad (18, 0)))), (3, (.ref (ad (32, 0)))), (4, (.int i))]) C d_Lw_law_659 (by decide) rfl ?_
      refine x_aload_n 4 C d_Lw_law_661 rfl rfl ?_
      refine x_cv (i := (18, 0)) (F := x_F ad cA) (As := []) (rest := []) C k_Md_thrown q_870 (c_Md_thrown ok) rfl rfl rfl (Nat.le_of_ble_eq_true rfl) (Nat.le_of_ble_eq_true rfl) m_18 rfl rfl rfl rfl rfl (Nat.le_of_ble_eq_true rfl) d_Lw_law_662 hrm ?_
      generalize hq10 : s_Md_thrown mi9 = r10 at hk ⊢
      have hk := x_lete hk.2
      refine x_iload 1 C d_Lw_law_665 rfl ?_
      refine x_gicmp_eq 672 C d_Lw_law_667 (by decide) (fun z11 => ?_) (fun z11 => ?_)
      · have hk := x_okt hk z11
        refine x_iload 1 C d_Lw_law_672 rfl ?_
        refine x_gif_ne 688 C d_Lw_law_674 (by decide) (fun z12 => ?_) (fun z12 => ?_)
        · have hk := x_okt hk z12
          refine x_aload_n 5 C d_Lw_law_677 rfl rfl ?_
          refine x_iconst (v := 0) C d_Lw_law_678 (by decide) ?_
          refine x_lald (i := (32, 0)) (g := out2) 1 C m_32 rfl rfl (x_vin (by decide)) d_Lw_law_679 ?_
          refine x_lload 0 C d_Lw_law_680 rfl ?_
          refine x_glcmp_eq 688 C d_Lw_law_682 d_Lw_law_683 (by decide) (fun z13 => ?_) (fun z13 => ?_)
          · have hk := x_okt hk z13
            refine x_goto 716 C d_Lw_law_688 (by decide) ?_
            refine x_loc (lv' := [(0, (.ref b)), (1, (.ref (ad (0, 0)))), (2, (.ref (ad (18, 0)))), (3, (.ref (ad (32, 0)))), (4, (.int i))]) [2, 3, 4, 5, 6] rfl ?_
            exact K _ hk
          · have hk := x_okf hk z13
            refine x_iconst (v := 0) C d_Lw_law_686 (by decide) ?_
            exact False.elim hk
        · have hk := x_okf hk z12
          refine x_goto 716 C d_Lw_law_688 (by decide) ?_
          refine x_loc (lv' := [(0, (.ref b)), (1, (.ref (ad (0, 0)))), (2, (.ref (ad (18, 0)))), (3, (.ref (ad (32, 0)))), (4, (.int i))]) [2, 3, 4, 5, 6] rfl ?_
          exact K _ hk
      · have hk := x_okf hk z11
        refine x_iconst (v := 0) C d_Lw_law_670 (by decide) ?_
        exact False.elim hk
  · have hk := x_okf hk z1
    refine x_iconst (v := 1) C d_Lw_law_630 (by decide) ?_
    refine x_goto 635 C d_Lw_law_631 (by decide) ?_
    refine x_aload_n 3 C d_Lw_law_635 rfl rfl ?_
    refine x_csH (F := x_F ad cA) (As := [(.ref (ad (0, 0))), (.int 1), (.ref (ad (32, 0)))]) (rest := []) C k_Lw_outcome q_770 (c_Lw_outcome htr ok 1) rfl hg hj hap rfl rfl (Nat.le_of_ble_eq_true rfl) (Nat.le_of_ble_eq_true rfl) rfl rfl (Nat.le_of_ble_eq_true rfl) d_Lw_law_636 hrm ?_
    generalize hq14 : s_Lw_outcome ckl chk out 1 = q14 at hk ⊢
    obtain ⟨r14, out14⟩ := q14
    have hk := x_lete hk.2
    dsimp only at hk ⊢
    refine x_istore (lv' := [(5, (.int r14)), (0, (.ref b)), (1, (.ref (ad (0, 0)))), (2, (.ref (ad (18, 0)))), (3, (.ref (ad (32, 0)))), (4, (.int i))]) C d_Lw_law_639 (by decide) rfl ?_
    refine x_aload_n 3 C d_Lw_law_641 rfl rfl ?_
    refine x_aload_n 1 C d_Lw_law_642 rfl rfl ?_
    refine x_iload 5 C d_Lw_law_643 rfl ?_
    refine x_iconst (v := 1) C d_Lw_law_645 (by decide) ?_
    refine x_iadd C d_Lw_law_646 ?_
    refine x_sldE C hX hbl hbA h1 ha1 d_Lw_law_647 ?_
    refine x_gif_eq 655 C d_Lw_law_648 (by decide) (fun z15 => ?_) (fun z15 => ?_)
    · have hk := x_okt hk z15
      refine x_iconst (v := 0) C d_Lw_law_655 (by decide) ?_
      refine x_cv (i := (18, 0)) (F := x_F ad cA) (As := [(.int 0)]) (rest := []) C k_Md_outcome q_1057 (c_Md_outcome ok 0) rfl rfl rfl (Nat.le_of_ble_eq_true rfl) (Nat.le_of_ble_eq_true rfl) m_18 rfl rfl rfl rfl rfl (Nat.le_of_ble_eq_true rfl) d_Lw_law_656 hrm ?_
      generalize hq16 : s_Md_outcome mi ml 0 = q16 at hk ⊢
      obtain ⟨r16, mi16⟩ := q16
      have hk := x_lete hk.2
      dsimp only at hk ⊢
      refine x_lstore (lv' := [(6, (.long r16)), (5, (.int r14)), (0, (.ref b)), (1, (.ref (ad (0, 0)))), (2, (.ref (ad (18, 0)))), (3, (.ref (ad (32, 0)))), (4, (.int i))]) C d_Lw_law_659 (by decide) rfl ?_
      refine x_aload_n 4 C d_Lw_law_661 rfl rfl ?_
      refine x_cv (i := (18, 0)) (F := x_F ad cA) (As := []) (rest := []) C k_Md_thrown q_870 (c_Md_thrown ok) rfl rfl rfl (Nat.le_of_ble_eq_true rfl) (Nat.le_of_ble_eq_true rfl) m_18 rfl rfl rfl rfl rfl (Nat.le_of_ble_eq_true rfl) d_Lw_law_662 hrm ?_
      generalize hq17 : s_Md_thrown mi16 = r17 at hk ⊢
      have hk := x_lete hk.2
      refine x_iload 1 C d_Lw_law_665 rfl ?_
      refine x_gicmp_eq 672 C d_Lw_law_667 (by decide) (fun z18 => ?_) (fun z18 => ?_)
      · have hk := x_okt hk z18
        refine x_iload 1 C d_Lw_law_672 rfl ?_
        refine x_gif_ne 688 C d_Lw_law_674 (by decide) (fun z19 => ?_) (fun z19 => ?_)
        · have hk := x_okt hk z19
          refine x_aload_n 5 C d_Lw_law_677 rfl rfl ?_
          refine x_iconst (v := 0) C d_Lw_law_678 (by decide) ?_
          refine x_lald (i := (32, 0)) (g := out14) 1 C m_32 rfl rfl (x_vin (by decide)) d_Lw_law_679 ?_
          refine x_lload 0 C d_Lw_law_680 rfl ?_
          refine x_glcmp_eq 688 C d_Lw_law_682 d_Lw_law_683 (by decide) (fun z20 => ?_) (fun z20 => ?_)
          · have hk := x_okt hk z20
            refine x_goto 716 C d_Lw_law_688 (by decide) ?_
            refine x_loc (lv' := [(0, (.ref b)), (1, (.ref (ad (0, 0)))), (2, (.ref (ad (18, 0)))), (3, (.ref (ad (32, 0)))), (4, (.int i))]) [2, 3, 4, 5, 6] rfl ?_
            exact K _ hk
          · have hk := x_okf hk z20
            refine x_iconst (v := 0) C d_Lw_law_686 (by decide) ?_
            exact False.elim hk
        · have hk := x_okf hk z19
          refine x_goto 716 C d_Lw_law_688 (by decide) ?_
          refine x_loc (lv' := [(0, (.ref b)), (1, (.ref (ad (0, 0)))), (2, (.ref (ad (18, 0)))), (3, (.ref (ad (32, 0)))), (4, (.int i))]) [2, 3, 4, 5, 6] rfl ?_
          exact K _ hk
      · have hk := x_okf hk z18
        refine x_iconst (v := 0) C d_Lw_law_670 (by decide) ?_
        exact False.elim hk
    · have hk := x_okf hk z15
      refine x_iconst (v := 1) C d_Lw_law_651 (by decide) ?_
      refine x_goto 656 C d_Lw_law_652 (by decide) ?_
      refine x_cv (i := (18, 0)) (F := x_F ad cA) (As := [(.int 1)]) (rest := []) C k_Md_outcome q_1057 (c_Md_outcome ok 1) rfl rfl rfl (Nat.le_of_ble_eq_true rfl) (Nat.le_of_ble_eq_true rfl) m_18 rfl rfl rfl rfl rfl (Nat.le_of_ble_eq_true rfl) d_Lw_law_656 hrm ?_
      generalize hq21 : s_Md_outcome mi ml 1 = q21 at hk ⊢
      obtain ⟨r21, mi21⟩ := q21
      have hk := x_lete hk.2
      dsimp only at hk ⊢
      refine x_lstore (lv' := [(6, (.long r21)), (5, (.int r14)), (0, (.ref b)), (1, (.ref (ad (0, 0)))), (2, (.ref (ad (18, 0)))), (3, (.ref (ad (32, 0)))), (4, (.int i))]) C d_Lw_law_659 (by decide) rfl ?_
      refine x_aload_n 4 C d_Lw_law_661 rfl rfl ?_
      refine x_cv (i := (18, 0)) (F := x_F ad cA) (As := []) (rest := []) C k_Md_thrown q_870 (c_Md_thrown ok) rfl rfl rfl (Nat.le_of_ble_eq_true rfl) (Nat.le_of_ble_eq_true rfl) m_18 rfl rfl rfl rfl rfl (Nat.le_of_ble_eq_true rfl) d_Lw_law_662 hrm ?_
      generalize hq22 : s_Md_thrown mi21 = r22 at hk ⊢
      have hk := x_lete hk.2
      refine x_iload 1 C d_Lw_law_665 rfl ?_
      refine x_gicmp_eq 672 C d_Lw_law_667 (by decide) (fun z23 => ?_) (fun z23 => ?_)
      · have hk := x_okt hk z23
        refine x_iload 1 C d_Lw_law_672 rfl ?_
        refine x_gif_ne 688 C d_Lw_law_674 (by decide) (fun z24 => ?_) (fun z24 => ?_)
        · have hk := x_okt hk z24
          refine x_aload_n 5 C d_Lw_law_677 rfl rfl ?_
          refine x_iconst (v := 0) C d_Lw_law_678 (by decide) ?_
          refine x_lald (i := (32, 0)) (g := out14) 1 C m_32 rfl rfl (x_vin (by decide)) d_Lw_law_679 ?_
          refine x_lload 0 C d_Lw_law_680 rfl ?_
          refine x_glcmp_eq 688 C d_Lw_law_682 d_Lw_law_683 (by decide) (fun z25 => ?_) (fun z25 => ?_)
          · have hk := x_okt hk z25
            refine x_goto 716 C d_Lw_law_688 (by decide) ?_
            refine x_loc (lv' := [(0, (.ref b)), (1, (.ref (ad (0, 0)))), (2, (.ref (ad (18, 0)))), (3, (.ref (ad (32, 0)))), (4, (.int i))]) [2, 3, 4, 5, 6] rfl ?_
            exact K _ hk
          · have hk := x_okf hk z25
            refine x_iconst (v := 0) C d_Lw_law_686 (by decide) ?_
            exact False.elim hk
        · have hk := x_okf hk z24
          refine x_goto 716 C d_Lw_law_688 (by decide) ?_
          refine x_loc (lv' := [(0, (.ref b)), (1, (.ref (ad (0, 0)))), (2, (.ref (ad (18, 0)))), (3, (.ref (ad (32, 0)))), (4, (.int i))]) [2, 3, 4, 5, 6] rfl ?_
          exact K _ hk
      · have hk := x_okf hk z23
        refine x_iconst (v := 0) C d_Lw_law_670 (by decide) ?_
        exact False.elim hk
def law_ok_8 (I : x_S → Prop) (stp : Nat → Nat → Int32) (psz : Int32) (gk : Nat → Nat → Int32) (gl : Nat → Nat → Int64) (gh : Nat → Nat → Int64) (opn : Nat → Int32) (cki : Nat → Int32) (ckl : Nat → Int64) (mp : Nat → Nat → Int64) (rk : Nat → Int32) (rv : Nat → Int64) (ri : Nat → Int32) (chk : Int32) (mo : Nat → Nat → Int32) (mi : Nat → Int32) (ml : Nat → Int64) (mk : Nat → Int32) (mlo : Nat → Int64) (mhi : Nat → Int64) (pk : Nat → Int32) (ps : Nat → Int32) (pl : Nat → Int64) (ph : Nat → Int64) (mm : Nat → Int64) (out : Nat → Int64) (a1 : Int32) : Prop :=
  (True ∧ x_let (s_CM_count psz cki ri chk a1) fun r1 => (True ∧ x_let (s_Md_count mi a1) fun (r2, mi2) => (if r1 = r2 then I ((stp, psz, gk, gl, gh, opn, cki, ckl, mp, rk, rv, ri, chk), (mo, mi2, ml, mk, mlo, mhi, pk, ps, pl, ph, mm), out) else False)))
set_option maxHeartbeats 4000000 in
set_option maxRecDepth 100000 in
theorem law_arm_8 {l : Launch} (htr : l.stackTraces = false) {D : va_G} {cA : Nat → ClassId} {ad : x_I → Nat} (ok : x_ok (x_k D cA ad)) {p : Program} {e : Env} {s : State} {m : MethodId} {args : Array Value} {below : List Frame} {meth : Method} {c : Code} {cells slots : Nat} {Q : State → Prop} {b L : Nat} {xs : Nat → Int32} {i : Int32} {w0 : Cond} (C : x_C p s m args c b_Lw_law 8 R_Lw (w0 :: x_Wd) (x_k D cA ad)) (hX : va_X b L xs s s.heap) (hbl : b < s.heap.size) (hbA : ¬ x_A (x_k D cA ad) s.heap.size b) (hg : x_G s) (hj : x_J s) (hap : ∀ q : Nat, q < s.heap.size → ¬ x_A (x_k D cA ad) s.heap.size q) (hrm : cells + 1 ≤ room_1.cells ∧ slots + 6 ≤ room_1.slots) (I : x_S → Prop) (stp : Nat → Nat → Int32) (psz : Int32) (gk : Nat → Nat → Int32) (gl : Nat → Nat → Int64) (gh : Nat → Nat → Int64) (opn : Nat → Int32) (cki : Nat → Int32) (ckl : Nat → Int64) (mp : Nat → Nat → Int64) (rk : Nat → Int32) (rv : Nat → Int64) (ri : Nat → Int32) (chk : Int32) (mo : Nat → Nat → Int32) (mi : Nat → Int32) (ml : Nat → Int64) (mk : Nat → Int32) (mlo : Nat → Int64) (mhi : Nat → Int64) (pk : Nat → Int32) (ps : Nat → Int32) (pl : Nat → Int64) (ph : Nat → Int64) (mm : Nat → Int64) (out : Nat → Int64) (a1 : Int32) (h1 : vp_in (i + 1) L) (ha1 : xs (Int32.toNatClampNeg (i + 1)) = a1) (K : ∀ st : x_S, I st → x_V p l e room_1 s m args below meth c (x_k D cA ad) 8 cells slots Q (x_F ad cA st) 716 [(0, (.ref b)), (1, (.ref (ad (0, 0)))), (2, (.ref (ad (18, 0)))), (3, (.ref (ad (32, 0)))), (4, (.int i))] []) (hk : law_ok_8 I stp psz gk gl gh opn cki ckl mp rk rv ri chk mo mi ml mk mlo mhi pk ps pl ph mm out a1) : x_V p l e room_1 s m args below meth c (x_k D cA ad) 8 cells slots Q (x_F ad cA ((stp, psz, gk, gl, gh, opn, cki, ckl, mp, rk, rv, ri, chk), (mo, mi, ml, mk, mlo, mhi, pk, ps, pl, ph, mm), out)) 691 [(0, (.ref b)), (1, (.ref (ad (0, 0)))), (2, (.ref (ad (18, 0)))), (3, (.ref (ad (32, 0)))), (4, (.int i))] [] := by
  unfold law_ok_8 at hk
  refine x_aload_n 1 C d_Lw_law_691 rfl rfl ?_
  refine x_aload_n 0 C d_Lw_law_692 rfl rfl ?_
  refine x_iload 4 C d_Lw_law_693 rfl ?_
  refine x_iconst (v := 1) C d_Lw_law_695 (by decide) ?_
  refine x_iadd C d_Lw_law_696 ?_
  refine x_sldE C hX hbl hbA h1 ha1 d_Lw_law_697 ?_
  refine x_cv (i := (0, 0)) (F := x_F ad cA) (As := [(.int a1)]) (rest := []) C k_CM_count q_215 (c_CM_count ok a1) rfl rfl rfl (Nat.le_of_ble_eq_true rfl) (Nat.le_of_ble_eq_true rfl) m_0 rfl rfl rfl rfl rfl (Nat.le_of_ble_eq_true rfl) d_Lw_law_698 ⟨Nat.le_trans (Nat.le_add_right _ _) hrm.1, Nat.le_trans (Nat.le_add_right _ _) hrm.2⟩ ?_
  generalize hq1 : s_CM_count psz cki ri chk a1 = r1 at hk ⊢
  have hk := x_lete hk.2
  refine x_aload_n 2 C d_Lw_law_701 rfl rfl ?_
  refine x_aload_n 0 C d_Lw_law_702 rfl rfl ?_
  refine x_iload 4 C d_Lw_law_703 rfl ?_
  refine x_iconst (v := 1) C d_Lw_law_705 (by decide) ?_
  refine x_iadd C d_Lw_law_706 ?_
  refine x_sldE C hX hbl hbA h1 ha1 d_Lw_law_707 ?_
  refine x_cv (i := (18, 0)) (F := x_F ad cA) (As := [(.int a1)]) (rest := [(.int r1)]) C k_Md_count q_1061 (c_Md_count ok a1) rfl rfl rfl (Nat.le_of_ble_eq_true rfl) (Nat.le_of_ble_eq_true rfl) m_18 rfl rfl rfl rfl rfl (Nat.le_of_ble_eq_true rfl) d_Lw_law_708 ⟨Nat.le_trans (Nat.le_add_right _ _) hrm.1, Nat.le_trans (Nat.le_add_right _ _) hrm.2⟩ ?_
  generalize hq2 : s_Md_count mi a1 = q2 at hk ⊢
  obtain ⟨r2, mi2⟩ := q2
  have hk := x_lete hk.2
  dsimp only at hk ⊢
  refine x_gicmp_eq 716 C d_Lw_law_711 (by decide) (fun z3 => ?_) (fun z3 => ?_)
  · have hk := x_okt hk z3
    refine x_loc (lv' := [(0, (.ref b)), (1, (.ref (ad (0, 0)))), (2, (.ref (ad (18, 0)))), (3, (.ref (ad (32, 0)))), (4, (.int i))]) [0, 1, 2, 3, 4] rfl ?_
    exact K _ hk
  · have hk := x_okf hk z3
    refine x_iconst (v := 0) C d_Lw_law_714 (by decide) ?_
    exact False.elim hk
