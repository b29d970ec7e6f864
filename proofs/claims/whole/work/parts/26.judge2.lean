def lp_Jg_loadsUnfitCell_66 (n : Nat) (gk : Nat → Nat → Int32) (j : Nat) (x2 : Int64) (x4 : Int64) (x6 : Int32) : Int32 := match n with
  | 0 => (0)
  | n + 1 => (if 6 ≤ x6 then (0) else (if x2 = x4 then (x_let (s_Gs_isEmpty gk 0 (6 + x6)) fun r8 => (if r8 = 0 then (if (Int32.toInt64 x6) < x2 then lp_Jg_loadsUnfitCell_66 n gk j x2 x4 (x6 + 1) else (if x4 < (Int32.toInt64 x6) then lp_Jg_loadsUnfitCell_66 n gk j x2 x4 (x6 + 1) else (if (1 : Int32) = 0 then (1) else lp_Jg_loadsUnfitCell_66 n gk j x2 x4 (x6 + 1)))) else (if (Int32.toInt64 x6) < x2 then lp_Jg_loadsUnfitCell_66 n gk j x2 x4 (x6 + 1) else (if x4 < (Int32.toInt64 x6) then lp_Jg_loadsUnfitCell_66 n gk j x2 x4 (x6 + 1) else (if (0 : Int32) = 0 then (1) else lp_Jg_loadsUnfitCell_66 n gk j x2 x4 (x6 + 1)))))) else (x_let (s_Gs_isRange gk 0 (6 + x6)) fun r16 => (if (Int32.toInt64 x6) < x2 then lp_Jg_loadsUnfitCell_66 n gk j x2 x4 (x6 + 1) else (if x4 < (Int32.toInt64 x6) then lp_Jg_loadsUnfitCell_66 n gk j x2 x4 (x6 + 1) else (if r16 = 0 then (1) else lp_Jg_loadsUnfitCell_66 n gk j x2 x4 (x6 + 1)))))))
set_option maxHeartbeats 4000000 in
set_option maxRecDepth 100000 in
theorem cl_Jg_loadsUnfitCell_66 {l : Launch} {D : va_G} {cA : Nat → ClassId} {ad : x_I → Nat} (ok : x_ok (x_k D cA ad)) {stp : Nat → Nat → Int32} {psz : Int32} {gk : Nat → Nat → Int32} {gl : Nat → Nat → Int64} {gh : Nat → Nat → Int64} {opn : Nat → Int32} {cki : Nat → Int32} {ckl : Nat → Int64} {mp : Nat → Nat → Int64} {rk : Nat → Int32} {rv : Nat → Int64} {ri : Nat → Int32} {chk : Int32} {mo : Nat → Nat → Int32} {mi : Nat → Int32} {ml : Nat → Int64} {mk : Nat → Int32} {mlo : Nat → Int64} {mhi : Nat → Int64} {pk : Nat → Int32} {ps : Nat → Int32} {pl : Nat → Int64} {ph : Nat → Int64} {mm : Nat → Int64} {out : Nat → Int64} {p : Program} {e : Env} {s : State} {m : MethodId} {args : Array Value} {below : List Frame} {meth : Method} {c : Code} (C : x_C p s m args c b_Jg_loadsUnfitCell 9 R_Jg (Cond.code y_Jg_loadsUnfitCell b_Jg_loadsUnfitCell 9 (Option.some Jvm.ClassFile.FieldType.boolean) :: x_Wd) (x_k D cA ad)) (hr : meth.sig.returnType = (Option.some Jvm.ClassFile.FieldType.boolean)) (hlk : meth.locks = false) (j : Nat) (hj : j < 24) (hw : x_wf stp) : ∀ (n : Nat)  (x2 : Int64) (x4 : Int64) (x6 : Int32) (hv : x_lp x6 6 n), x_V p l e { frames := 1, cells := 0, slots := 0, locals := 21 } s m args below meth c (x_k D cA ad) 9 0 0 (x_E below (x_k D cA ad) args s 0 0 (x_F ad cA) (fun q : Int32 => ((some (.int (q)), ((stp, psz, gk, gl, gh, opn, cki, ckl, mp, rk, rv, ri, chk), (mo, mi, ml, mk, mlo, mhi, pk, ps, pl, ph, mm), out)) : Option Value × x_S)) (lp_Jg_loadsUnfitCell_66 n gk j x2 x4 x6)) (x_F ad cA ((stp, psz, gk, gl, gh, opn, cki, ckl, mp, rk, rv, ri, chk), (mo, mi, ml, mk, mlo, mhi, pk, ps, pl, ph, mm), out)) 66 [(0, (.ref (ad (9, 0)))), (1, (.ref (ad (3, j)))), (2, (.long x2)), (4, (.long x4)), (6, (.int x6))] [] := by
  intro n
  induction n with
  | zero => intro  x2 x4 x6 hv; exact absurd hv x_lp0
  | succ n ih =>
    intro  x2 x4 x6 hv
    rw [lp_Jg_loadsUnfitCell_66]
    refine x_iload 4 C d_Jg_loadsUnfitCell_66 rfl ?_
    refine x_bipush (v := 6) C d_Jg_loadsUnfitCell_68 (by decide) ?_
    refine x_icmp_ge 148 C d_Jg_loadsUnfitCell_70 (by decide) (fun z6 => ?_) (fun z6 => ?_)
    · refine x_iconst (v := 0) C d_Jg_loadsUnfitCell_148 (by decide) ?_
      exact x_zret C hr hlk rfl rfl d_Jg_loadsUnfitCell_149
    · refine x_bipush (v := 6) C d_Jg_loadsUnfitCell_73 (by decide) ?_
      refine x_iload 4 C d_Jg_loadsUnfitCell_75 rfl ?_
      refine x_iadd C d_Jg_loadsUnfitCell_77 ?_
      refine x_istore (lv' := [(7, (.int (6 + x6))), (0, (.ref (ad (9, 0)))), (1, (.ref (ad (3, j)))), (2, (.long x2)), (4, (.long x4)), (6, (.int x6))]) C d_Jg_loadsUnfitCell_78 (by decide) rfl ?_
      refine x_lload_n 3 C d_Jg_loadsUnfitCell_80 rfl rfl ?_
      refine x_lload 4 C d_Jg_loadsUnfitCell_81 rfl ?_
      refine x_lcmp_ne 107 C d_Jg_loadsUnfitCell_83 d_Jg_loadsUnfitCell_84 (by decide) (fun z7 => ?_) (fun z7 => ?_)
      · refine x_aload_n 1 C d_Jg_loadsUnfitCell_87 rfl rfl ?_
        refine x_get (i := (9, 0)) (v := (.ref (ad (5, 0)))) 1 C m_9 rfl rfl i_Jg (by decide) (List.mem_cons_of_mem _ q_117) rfl d_Jg_loadsUnfitCell_88 ?_
        refine x_iload 0 C d_Jg_loadsUnfitCell_91 rfl ?_
        refine x_cv (i := (5, 0)) (F := x_F ad cA) (As := [(.int (6 + x6))]) (rest := []) C k_Gs_isEmpty q_447 (c_Gs_isEmpty ok 0 (by decide) (6 + x6) (x_lp6 hv z6 (by decide))) rfl rfl rfl (Nat.le_of_ble_eq_true rfl) (Nat.le_of_ble_eq_true rfl) (m_5 (by decide)) rfl rfl rfl rfl rfl (Nat.le_of_ble_eq_true rfl) d_Jg_loadsUnfitCell_93 ⟨Nat.zero_le _, Nat.zero_le _⟩ ?_
        generalize hq8 : s_Gs_isEmpty gk 0 (6 + x6) = r8
        refine x_lets ?_
        refine x_if_ne 103 C d_Jg_loadsUnfitCell_96 (by decide) (fun z9 => ?_) (fun z9 => ?_)
        · refine x_iconst (v := 1) C d_Jg_loadsUnfitCell_99 (by decide) ?_
          refine x_goto 116 C d_Jg_loadsUnfitCell_100 (by decide) ?_
          refine x_istore (lv' := [(8, (.int 1)), (7, (.int (6 + x6))), (0, (.ref (ad (9, 0)))), (1, (.ref (ad (3, j)))), (2, (.long x2)), (4, (.long x4)), (6, (.int x6))]) C d_Jg_loadsUnfitCell_116 (by decide) rfl ?_
          refine x_iload 6 C d_Jg_loadsUnfitCell_118 rfl ?_
          refine x_i2l C d_Jg_loadsUnfitCell_120 ?_
          refine x_lload_n 4 C d_Jg_loadsUnfitCell_121 rfl rfl ?_
          refine x_lcmp_lt 142 C d_Jg_loadsUnfitCell_122 d_Jg_loadsUnfitCell_123 (by decide) (fun z10 => ?_) (fun z10 => ?_)
          · refine x_iinc (lv' := [(6, (.int (x6 + 1))), (8, (.int 1)), (7, (.int (6 + x6))), (0, (.ref (ad (9, 0)))), (1, (.ref (ad (3, j)))), (2, (.long x2)), (4, (.long x4))]) 6 C d_Jg_loadsUnfitCell_142 rfl rfl (by decide) rfl ?_
            refine x_goto 66 C d_Jg_loadsUnfitCell_145 (by decide) ?_
            refine x_loc (lv' := [(0, (.ref (ad (9, 0)))), (1, (.ref (ad (3, j)))), (2, (.long x2)), (4, (.long x4)), (6, (.int (x6 + 1)))]) [3, 4, 5, 6, 0] rfl ?_
            exact ih  x2 x4 (x6 + 1) (x_lpS hv z6 (by decide) (by decide))
          · refine x_iload 6 C d_Jg_loadsUnfitCell_126 rfl ?_
            refine x_i2l C d_Jg_loadsUnfitCell_128 ?_
            refine x_lload 5 C d_Jg_loadsUnfitCell_129 rfl ?_
            refine x_lcmp_gt 142 C d_Jg_loadsUnfitCell_131 d_Jg_loadsUnfitCell_132 (by decide) (fun z11 => ?_) (fun z11 => ?_)
            · refine x_iinc (lv' := [(6, (.int (x6 + 1))), (8, (.int 1)), (7, (.int (6 + x6))), (0, (.ref (ad (9, 0)))), (1, (.ref (ad (3, j)))), (2, (.long x2)), (4, (.long x4))]) 6 C d_Jg_loadsUnfitCell_142 rfl rfl (by decide) rfl ?_
              refine x_goto 66 C d_Jg_loadsUnfitCell_145 (by decide) ?_
              refine x_loc (lv' := [(0, (.ref (ad (9, 0)))), (1, (.ref (ad (3, j)))), (2, (.long x2)), (4, (.long x4)), (6, (.int (x6 + 1)))]) [3, 4, 5, 6, 0] rfl ?_
              exact ih  x2 x4 (x6 + 1) (x_lpS hv z6 (by decide) (by decide))
            · refine x_iload 0 C d_Jg_loadsUnfitCell_135 rfl ?_
              refine x_if_ne 142 C d_Jg_loadsUnfitCell_137 (by decide) (fun z12 => ?_) (fun z12 => ?_)
              · refine x_iconst (v := 1) C d_Jg_loadsUnfitCell_140 (by decide) ?_
                exact x_zret C hr hlk rfl rfl d_Jg_loadsUnfitCell_141
              · refine x_iinc (lv' := [(6, (.int (x6 + 1))), (8, (.int 1)), (7, (.int (6 + x6))), (0, (.ref (ad (9, 0)))), (1, (.ref (ad (3, j)))), (2, (.long x2)), (4, (.long x4))]) 6 C d_Jg_loadsUnfitCell_142 rfl rfl (by decide) rfl ?_
                refine x_goto 66 C d_Jg_loadsUnfitCell_145 (by decide) ?_
                refine x_loc (lv' := [(0, (.ref (ad (9, 0)))), (1, (.ref (ad (3, j)))), (2, (.long x2)), (4, (.long x4)), (6, (.int (x6 + 1)))]) [3, 4, 5, 6, 0] rfl ?_
                exact ih  x2 x4 (x6 + 1) (x_lpS hv z6 (by decide) (by decide))
        · refine x_iconst (v := 0) C d_Jg_loadsUnfitCell_103 (by decide) ?_
          refine x_goto 116 C d_Jg_loadsUnfitCell_104 (by decide) ?_
          refine x_istore (lv' := [(8, (.int 0)), (7, (.int (6 + x6))), (0, (.ref (ad (9, 0)))), (1, (.ref (ad (3, j)))), (2, (.long x2)), (4, (.long x4)), (6, (.int x6))]) C d_Jg_loadsUnfitCell_116 (by decide) rfl ?_
          refine x_iload 6 C d_Jg_loadsUnfitCell_118 rfl ?_
          refine x_i2l C d_Jg_loadsUnfitCell_120 ?_
          refine x_lload_n 4 C d_Jg_loadsUnfitCell_121 rfl rfl ?_
          refine x_lcmp_lt 142 C d_Jg_loadsUnfitCell_122 d_Jg_loadsUnfitCell_123 (by decide) (fun z13 => ?_) (fun z13 => ?_)
          · refine x_iinc (lv' := [(6, (.int (x6 + 1))), (8, (.int 0)), (7, (.int (6 + x6))), (0, (.ref (ad (9, 0)))), (1, (.ref (ad (3, j)))), (2, (.long x2)), (4, (.long x4))]) 6 C d_Jg_loadsUnfitCell_142 rfl rfl (by decide) rfl ?_
            refine x_goto 66 C d_Jg_loadsUnfitCell_145 (by decide) ?_
            refine x_loc (lv' := [(0, (.ref (ad (9, 0)))), (1, (.ref (ad (3, j)))), (2, (.long x2)), (4, (.long x4)), (6, (.int (x6 + 1)))]) [3, 4, 5, 6, 0] rfl ?_
            exact ih  x2 x4 (x6 + 1) (x_lpS hv z6 (by decide) (by decide))
          · refine x_iload 6 C d_Jg_loadsUnfitCell_126 rfl ?_
            refine x_i2l C d_Jg_loadsUnfitCell_128 ?_
            refine x_lload 5 C d_Jg_loadsUnfitCell_129 rfl ?_
            refine x_lcmp_gt 142 C d_Jg_loadsUnfitCell_131 d_Jg_loadsUnfitCell_132 (by decide) (fun z14 => ?_) (fun z14 => ?_)
            · refine x_iinc (lv' := [(6, (.int (x6 + 1))), (8, (.int 0)), (7, (.int (6 + x6))), (0, (.ref (ad (9, 0)))), (1, (.ref (ad (3, j)))), (2, (.long x2)), (4, (.long x4))]) 6 C d_Jg_loadsUnfitCell_142 rfl rfl (by decide) rfl ?_
              refine x_goto 66 C d_Jg_loadsUnfitCell_145 (by decide) ?_
              refine x_loc (lv' := [(0, (.ref (ad (9, 0)))), (1, (.ref (ad (3, j)))), (2, (.long x2)), (4, (.long x4)), (6, (.int (x6 + 1)))]) [3, 4, 5, 6, 0] rfl ?_
              exact ih  x2 x4 (x6 + 1) (x_lpS hv z6 (by decide) (by decide))
            · refine x_iload 0 C d_Jg_loadsUnfitCell_135 rfl ?_
              refine x_if_ne 142 C d_Jg_loadsUnfitCell_137 (by decide) (fun z15 => ?_) (fun z15 => ?_)
              · refine x_iconst (v := 1) C d_Jg_loadsUnfitCell_140 (by decide) ?_
                exact x_zret C hr hlk rfl rfl d_Jg_loadsUnfitCell_141
              · refine x_iinc (lv' := [(6, (.int (x6 + 1))), (8, (.int 0)), (7, (.int (6 + x6))), (0, (.ref (ad (9, 0)))), (1, (.ref (ad (3, j)))), (2, (.long x2)), (4, (.long x4))]) 6 C d_Jg_loadsUnfitCell_142 rfl rfl (by decide) rfl ?_
                refine x_goto 66 C d_Jg_loadsUnfitCell_145 (by decide) ?_
                refine x_loc (lv' := [(0, (.ref (ad (9, 0)))), (1, (.ref (ad (3, j)))), (2, (.long x2)), (4, (.long x4)), (6, (.int (x6 + 1)))]) [3, 4, 5, 6, 0] rfl ?_
                exact ih  x2 x4 (x6 + 1) (x_lpS hv z6 (by decide) (by decide))
      · refine x_aload_n 1 C d_Jg_loadsUnfitCell_107 rfl rfl ?_
        refine x_get (i := (9, 0)) (v := (.ref (ad (5, 0)))) 1 C m_9 rfl rfl i_Jg (by decide) (List.mem_cons_of_mem _ q_117) rfl d_Jg_loadsUnfitCell_108 ?_
        refine x_iload 0 C d_Jg_loadsUnfitCell_111 rfl ?_
        refine x_cv (i := (5, 0)) (F := x_F ad cA) (As := [(.int (6 + x6))]) (rest := []) C k_Gs_isRange q_470 (c_Gs_isRange ok 0 (by decide) (6 + x6) (x_lp6 hv z6 (by decide))) rfl rfl rfl (Nat.le_of_ble_eq_true rfl) (Nat.le_of_ble_eq_true rfl) (m_5 (by decide)) rfl rfl rfl rfl rfl (Nat.le_of_ble_eq_true rfl) d_Jg_loadsUnfitCell_113 ⟨Nat.zero_le _, Nat.zero_le _⟩ ?_
        generalize hq16 : s_Gs_isRange gk 0 (6 + x6) = r16
        refine x_lets ?_
        refine x_istore (lv' := [(8, (.int r16)), (7, (.int (6 + x6))), (0, (.ref (ad (9, 0)))), (1, (.ref (ad (3, j)))), (2, (.long x2)), (4, (.long x4)), (6, (.int x6))]) C d_Jg_loadsUnfitCell_116 (by decide) rfl ?_
        refine x_iload 6 C d_Jg_loadsUnfitCell_118 rfl ?_
        refine x_i2l C d_Jg_loadsUnfitCell_120 ?_
        refine x_lload_n 4 C d_Jg_loadsUnfitCell_121 rfl rfl ?_
        refine x_lcmp_lt 142 C d_Jg_loadsUnfitCell_122 d_Jg_loadsUnfitCell_123 (by decide) (fun z17 => ?_) (fun z17 => ?_)
        · refine x_iinc (lv' := [(6, (.int (x6 + 1))), (8, (.int r16)), (7, (.int (6 + x6))), (0, (.ref (ad (9, 0)))), (1, (.ref (ad (3, j)))), (2, (.long x2)), (4, (.long x4))]) 6 C d_Jg_loadsUnfitCell_142 rfl rfl (by decide) rfl ?_
          refine x_goto 66 C d_Jg_loadsUnfitCell_145 (by decide) ?_
          refine x_loc (lv' := [(0, (.ref (ad (9, 0)))), (1, (.ref (ad (3, j)))), (2, (.long x2)), (4, (.long x4)), (6, (.int (x6 + 1)))]) [3, 4, 5, 6, 0] rfl ?_
          exact ih  x2 x4 (x6 + 1) (x_lpS hv z6 (by decide) (by decide))
        · refine x_iload 6 C d_Jg_loadsUnfitCell_126 rfl ?_
          refine x_i2l C d_Jg_loadsUnfitCell_128 ?_
          refine x_lload 5 C d_Jg_loadsUnfitCell_129 rfl ?_
          refine x_lcmp_gt 142 C d_Jg_loadsUnfitCell_131 d_Jg_loadsUnfitCell_132 (by decide) (fun z18 => ?_) (fun z18 => ?_)
          · refine x_iinc (lv' := [(6, (.int (x6 + 1))), (8, (.int r16)), (7, (.int (6 + x6))), (0, (.ref (ad (9, 0)))), (1, (.ref (ad (3, j)))), (2, (.long x2)), (4, (.long x4))]) 6 C d_Jg_loadsUnfitCell_142 rfl rfl (by decide) rfl ?_
            refine x_goto 66 C d_Jg_loadsUnfitCell_145 (by decide) ?_
            refine x_loc (lv' := [(0, (.ref (ad (9, 0)))), (1, (.ref (ad (3, j)))), (2, (.long x2)), (4, (.long x4)), (6, (.int (x6 + 1)))]) [3, 4, 5, 6, 0] rfl ?_
            exact ih  x2 x4 (x6 + 1) (x_lpS hv z6 (by decide) (by decide))
          · refine x_iload 0 C d_Jg_loadsUnfitCell_135 rfl ?_
            refine x_if_ne 142 C d_Jg_loadsUnfitCell_137 (by decide) (fun z19 => ?_) (fun z19 => ?_)
            · refine x_iconst (v := 1) C d_Jg_loadsUnfitCell_140 (by decide) ?_
              exact x_zret C hr hlk rfl rfl d_Jg_loadsUnfitCell_141
            · refine x_iinc (lv' := [(6, (.int (x6 + 1))), (8, (.int r16)), (7, (.int (6 + x6))), (0, (.ref (ad (9, 0)))), (1, (.ref (ad (3, j)))), (2, (.long x2)), (4, (.long x4))]) 6 C d_Jg_loadsUnfitCell_142 rfl rfl (by decide) rfl ?_
              refine x_goto 66 C d_Jg_loadsUnfitCell_145 (by decide) ?_
              refine x_loc (lv' := [(0, (.ref (ad (9, 0)))), (1, (.ref (ad (3, j)))), (2, (.long x2)), (4, (.long x4)), (6, (.int (x6 + 1)))]) [3, 4, 5, 6, 0] rfl ?_
              exact ih  x2 x4 (x6 + 1) (x_lpS hv z6 (by decide) (by decide))
def s_Jg_loadsUnfitCell (stp : Nat → Nat → Int32) (gk : Nat → Nat → Int32) (gl : Nat → Nat → Int64) (gh : Nat → Nat → Int64) (j : Nat) : Int32 :=
  (if (stp j 0) = 14 then (x_let (s_Gs_kind gk 0 (stp j 2)) fun r2 => (if r2 = 2 then (x_let (s_Gs_lo gl 0 (stp j 2)) fun r4 => (x_let (s_Gs_hi gh 0 (stp j 2)) fun r5 => lp_Jg_loadsUnfitCell_66 7 gk j (r4 + (Int32.toInt64 (stp j 3))) (r5 + (Int32.toInt64 (stp j 3))) 0)) else (0))) else (0))
set_option maxHeartbeats 4000000 in
set_option maxRecDepth 100000 in
theorem c_Jg_loadsUnfitCell {l : Launch} {D : va_G} {cA : Nat → ClassId} {ad : x_I → Nat} (ok : x_ok (x_k D cA ad)) {stp : Nat → Nat → Int32} {psz : Int32} {gk : Nat → Nat → Int32} {gl : Nat → Nat → Int64} {gh : Nat → Nat → Int64} {opn : Nat → Int32} {cki : Nat → Int32} {ckl : Nat → Int64} {mp : Nat → Nat → Int64} {rk : Nat → Int32} {rv : Nat → Int64} {ri : Nat → Int32} {chk : Int32} {mo : Nat → Nat → Int32} {mi : Nat → Int32} {ml : Nat → Int64} {mk : Nat → Int32} {mlo : Nat → Int64} {mhi : Nat → Int64} {pk : Nat → Int32} {ps : Nat → Int32} {pl : Nat → Int64} {ph : Nat → Int64} {mm : Nat → Int64} {out : Nat → Int64} (j : Nat) (hj : j < 24) (hw : x_wf stp) : x_M l y_Jg_loadsUnfitCell (Cond.code y_Jg_loadsUnfitCell b_Jg_loadsUnfitCell 9 (Option.some Jvm.ClassFile.FieldType.boolean) :: x_Wd) { frames := 1, cells := 0, slots := 0, locals := 21 } (x_k D cA ad) (x_F ad cA) [(.ref (ad (9, 0))), (.ref (ad (3, j)))] ((stp, psz, gk, gl, gh, opn, cki, ckl, mp, rk, rv, ri, chk), (mo, mi, ml, mk, mlo, mhi, pk, ps, pl, ph, mm), out) ((fun q : Int32 => ((some (.int (q)), ((stp, psz, gk, gl, gh, opn, cki, ckl, mp, rk, rv, ri, chk), (mo, mi, ml, mk, mlo, mhi, pk, ps, pl, ph, mm), out)) : Option Value × x_S)) (s_Jg_loadsUnfitCell stp gk gl gh j)) 0 0 := by
  refine x_start (κ := x_k D cA ad) (cc := b_Jg_loadsUnfitCell) (F := x_F ad cA) (wr := (fun q : Int32 => ((some (.int (q)), ((stp, psz, gk, gl, gh, opn, cki, ckl, mp, rk, rv, ri, chk), (mo, mi, ml, mk, mlo, mhi, pk, ps, pl, ph, mm), out)) : Option Value × x_S))) (q := s_Jg_loadsUnfitCell stp gk gl gh j) (ret := (Option.some Jvm.ClassFile.FieldType.boolean)) (lv0 := [(0, (.ref (ad (9, 0)))), (1, (.ref (ad (3, j))))]) ok (by decide) rfl (Nat.le_of_ble_eq_true rfl) rfl ?_
  intro p e s m below meth c C hr hlk
  unfold s_Jg_loadsUnfitCell
  refine x_aload_n 1 C d_Jg_loadsUnfitCell_0 rfl rfl ?_
  refine x_get (i := (3, j)) (v := (.int (stp j 0))) 0 C (m_3 hj) rfl rfl i_St (by decide) (List.mem_cons_of_mem _ q_44) rfl d_Jg_loadsUnfitCell_1 ?_
  refine x_bipush (v := 14) C d_Jg_loadsUnfitCell_4 (by decide) ?_
  refine x_icmp_ne 24 C d_Jg_loadsUnfitCell_6 (by decide) (fun z1 => ?_) (fun z1 => ?_)
  · refine x_aload_n 0 C d_Jg_loadsUnfitCell_9 rfl rfl ?_
    refine x_get (i := (9, 0)) (v := (.ref (ad (5, 0)))) 1 C m_9 rfl rfl i_Jg (by decide) (List.mem_cons_of_mem _ q_117) rfl d_Jg_loadsUnfitCell_10 ?_
    refine x_aload_n 1 C d_Jg_loadsUnfitCell_13 rfl rfl ?_
    refine x_get (i := (3, j)) (v := (.int (stp j 2))) 2 C (m_3 hj) rfl rfl i_St (by decide) (List.mem_cons_of_mem _ q_55) rfl d_Jg_loadsUnfitCell_14 ?_
    refine x_cv (i := (5, 0)) (F := x_F ad cA) (As := [(.int (stp j 2))]) (rest := []) C k_Gs_kind q_482 (c_Gs_kind ok 0 (by decide) (stp j 2) (x_wfs hw hj)) rfl rfl rfl (Nat.le_of_ble_eq_true rfl) (Nat.le_of_ble_eq_true rfl) (m_5 (by decide)) rfl rfl rfl rfl rfl (Nat.le_of_ble_eq_true rfl) d_Jg_loadsUnfitCell_17 ⟨Nat.zero_le _, Nat.zero_le _⟩ ?_
    generalize hq2 : s_Gs_kind gk 0 (stp j 2) = r2
    refine x_lets ?_
    refine x_iconst (v := 2) C d_Jg_loadsUnfitCell_20 (by decide) ?_
    refine x_icmp_eq 26 C d_Jg_loadsUnfitCell_21 (by decide) (fun z3 => ?_) (fun z3 => ?_)
    · refine x_aload_n 0 C d_Jg_loadsUnfitCell_26 rfl rfl ?_
      refine x_get (i := (9, 0)) (v := (.ref (ad (5, 0)))) 1 C m_9 rfl rfl i_Jg (by decide) (List.mem_cons_of_mem _ q_117) rfl d_Jg_loadsUnfitCell_27 ?_
      refine x_aload_n 1 C d_Jg_loadsUnfitCell_30 rfl rfl ?_
      refine x_get (i := (3, j)) (v := (.int (stp j 2))) 2 C (m_3 hj) rfl rfl i_St (by decide) (List.mem_cons_of_mem _ q_55) rfl d_Jg_loadsUnfitCell_31 ?_
      refine x_cv (i := (5, 0)) (F := x_F ad cA) (As := [(.int (stp j 2))]) (rest := []) C k_Gs_lo q_494 (c_Gs_lo ok 0 (by decide) (stp j 2) (x_wfs hw hj)) rfl rfl rfl (Nat.le_of_ble_eq_true rfl) (Nat.le_of_ble_eq_true rfl) (m_5 (by decide)) rfl rfl rfl rfl rfl (Nat.le_of_ble_eq_true rfl) d_Jg_loadsUnfitCell_34 ⟨Nat.zero_le _, Nat.zero_le _⟩ ?_
      generalize hq4 : s_Gs_lo gl 0 (stp j 2) = r4
      refine x_lets ?_
      refine x_aload_n 1 C d_Jg_loadsUnfitCell_37 rfl rfl ?_
      refine x_get (i := (3, j)) (v := (.int (stp j 3))) 3 C (m_3 hj) rfl rfl i_St (by decide) (List.mem_cons_of_mem _ q_61) rfl d_Jg_loadsUnfitCell_38 ?_
      refine x_i2l C d_Jg_loadsUnfitCell_41 ?_
      refine x_ladd C d_Jg_loadsUnfitCell_42 ?_
      refine x_lstore_n (lv' := [(2, (.long (r4 + (Int32.toInt64 (stp j 3))))), (0, (.ref (ad (9, 0)))), (1, (.ref (ad (3, j))))]) C d_Jg_loadsUnfitCell_43 rfl (by decide) rfl ?_
      refine x_aload_n 1 C d_Jg_loadsUnfitCell_44 rfl rfl ?_
      refine x_get (i := (9, 0)) (v := (.ref (ad (5, 0)))) 1 C m_9 rfl rfl i_Jg (by decide) (List.mem_cons_of_mem _ q_117) rfl d_Jg_loadsUnfitCell_45 ?_
      refine x_aload_n 2 C d_Jg_loadsUnfitCell_48 rfl rfl ?_
      refine x_get (i := (3, j)) (v := (.int (stp j 2))) 2 C (m_3 hj) rfl rfl i_St (by decide) (List.mem_cons_of_mem _ q_55) rfl d_Jg_loadsUnfitCell_49 ?_
      refine x_cv (i := (5, 0)) (F := x_F ad cA) (As := [(.int (stp j 2))]) (rest := []) C k_Gs_hi q_498 (c_Gs_hi ok 0 (by decide) (stp j 2) (x_wfs hw hj)) rfl rfl rfl (Nat.le_of_ble_eq_true rfl) (Nat.le_of_ble_eq_true rfl) (m_5 (by decide)) rfl rfl rfl rfl rfl (Nat.le_of_ble_eq_true rfl) d_Jg_loadsUnfitCell_52 ⟨Nat.zero_le _, Nat.zero_le _⟩ ?_
      generalize hq5 : s_Gs_hi gh 0 (stp j 2) = r5
      refine x_lets ?_
      refine x_aload_n 2 C d_Jg_loadsUnfitCell_55 rfl rfl ?_
      refine x_get (i := (3, j)) (v := (.int (stp j 3))) 3 C (m_3 hj) rfl rfl i_St (by decide) (List.mem_cons_of_mem _ q_61) rfl d_Jg_loadsUnfitCell_56 ?_
      refine x_i2l C d_Jg_loadsUnfitCell_59 ?_
      refine x_ladd C d_Jg_loadsUnfitCell_60 ?_
      refine x_lstore (lv' := [(4, (.long (r5 + (Int32.toInt64 (stp j 3))))), (2, (.long (r4 + (Int32.toInt64 (stp j 3))))), (0, (.ref (ad (9, 0)))), (1, (.ref (ad (3, j))))]) C d_Jg_loadsUnfitCell_61 (by decide) rfl ?_
      refine x_iconst (v := 0) C d_Jg_loadsUnfitCell_63 (by decide) ?_
      refine x_istore (lv' := [(6, (.int 0)), (4, (.long (r5 + (Int32.toInt64 (stp j 3))))), (2, (.long (r4 + (Int32.toInt64 (stp j 3))))), (0, (.ref (ad (9, 0)))), (1, (.ref (ad (3, j))))]) C d_Jg_loadsUnfitCell_64 (by decide) rfl ?_
      refine x_loc (lv' := [(0, (.ref (ad (9, 0)))), (1, (.ref (ad (3, j)))), (2, (.long (r4 + (Int32.toInt64 (stp j 3))))), (4, (.long (r5 + (Int32.toInt64 (stp j 3))))), (6, (.int 0))]) [3, 4, 2, 1, 0] rfl ?_
      exact cl_Jg_loadsUnfitCell_66 ok C hr hlk j hj hw 7  (r4 + (Int32.toInt64 (stp j 3))) (r5 + (Int32.toInt64 (stp j 3))) 0 ⟨by decide, by decide, by decide⟩
    · refine x_iconst (v := 0) C d_Jg_loadsUnfitCell_24 (by decide) ?_
      exact x_zret C hr hlk rfl rfl d_Jg_loadsUnfitCell_25
  · refine x_iconst (v := 0) C d_Jg_loadsUnfitCell_24 (by decide) ?_
    exact x_zret C hr hlk rfl rfl d_Jg_loadsUnfitCell_25
def s_Jg_reasonAgainst (stp : Nat → Nat → Int32) (psz : Int32) (gk : Nat → Nat → Int32) (gl : Nat → Nat → Int64) (gh : Nat → Nat → Int64) (j : Nat) (a2 : Int32) : Int32 :=
  (x_let (s_Jg_lacksTarget stp psz j a2) fun r1 => (if r1 = 0 then (x_let (s_Jg_usesEmpty stp gk j) fun r3 => (if r3 = 0 then (x_let (s_Jg_hasBadNumber stp j) fun r5 => (if r5 = 0 then (x_let (s_Jg_hasWrongKind stp gk gl gh j) fun r7 => (if r7 = 0 then (x_let (s_Jg_storesOverNoRange stp gk gl gh j) fun r9 => (if r9 = 0 then (x_let (s_Jg_goesOutside stp gk gl gh j) fun r11 => (if r11 = 0 then (x_let (s_Jg_loadsUnfitCell stp gk gl gh j) fun r13 => (if r13 = 0 then (x_let (s_Jg_findsNoRow stp gl gh j) fun r15 => (if r15 = 0 then (0) else (7))) else (6))) else (5))) else (4))) else (4))) else (3))) else (2))) else (1)))
set_option maxHeartbeats 4000000 in
set_option maxRecDepth 100000 in
theorem c_Jg_reasonAgainst {l : Launch} {D : va_G} {cA : Nat → ClassId} {ad : x_I → Nat} (ok : x_ok (x_k D cA ad)) {stp : Nat → Nat → Int32} {psz : Int32} {gk : Nat → Nat → Int32} {gl : Nat → Nat → Int64} {gh : Nat → Nat → Int64} {opn : Nat → Int32} {cki : Nat → Int32} {ckl : Nat → Int64} {mp : Nat → Nat → Int64} {rk : Nat → Int32} {rv : Nat → Int64} {ri : Nat → Int32} {chk : Int32} {mo : Nat → Nat → Int32} {mi : Nat → Int32} {ml : Nat → Int64} {mk : Nat → Int32} {mlo : Nat → Int64} {mhi : Nat → Int64} {pk : Nat → Int32} {ps : Nat → Int32} {pl : Nat → Int64} {ph : Nat → Int64} {mm : Nat → Int64} {out : Nat → Int64} (j : Nat) (hj : j < 24) (a2 : Int32) (hw : x_wf stp) : x_M l y_Jg_reasonAgainst (Cond.code y_Jg_reasonAgainst b_Jg_reasonAgainst 3 (Option.some Jvm.ClassFile.FieldType.int) :: x_Wd) { frames := 4, cells := 0, slots := 0, locals := 84 } (x_k D cA ad) (x_F ad cA) [(.ref (ad (9, 0))), (.ref (ad (3, j))), (.int a2)] ((stp, psz, gk, gl, gh, opn, cki, ckl, mp, rk, rv, ri, chk), (mo, mi, ml, mk, mlo, mhi, pk, ps, pl, ph, mm), out) ((fun q : Int32 => ((some (.int (q)), ((stp, psz, gk, gl, gh, opn, cki, ckl, mp, rk, rv, ri, chk), (mo, mi, ml, mk, mlo, mhi, pk, ps, pl, ph, mm), out)) : Option Value × x_S)) (s_Jg_reasonAgainst stp psz gk gl gh j a2)) 0 0 := by
  refine x_start (κ := x_k D cA ad) (cc := b_Jg_reasonAgainst) (F := x_F ad cA) (wr := (fun q : Int32 => ((some (.int (q)), ((stp, psz, gk, gl, gh, opn, cki, ckl, mp, rk, rv, ri, chk), (mo, mi, ml, mk, mlo, mhi, pk, ps, pl, ph, mm), out)) : Option Value × x_S))) (q := s_Jg_reasonAgainst stp psz gk gl gh j a2) (ret := (Option.some Jvm.ClassFile.FieldType.int)) (lv0 := [(0, (.ref (ad (9, 0)))), (1, (.ref (ad (3, j)))), (2, (.int a2))]) ok (by decide) rfl (Nat.le_of_ble_eq_true rfl) rfl ?_
  intro p e s m below meth c C hr hlk
  unfold s_Jg_reasonAgainst
  refine x_aload_n 1 C d_Jg_reasonAgainst_0 rfl rfl ?_
  refine x_ifnullR C d_Jg_reasonAgainst_1 ?_
  refine x_aload_n 0 C d_Jg_reasonAgainst_4 rfl rfl ?_
  refine x_aload_n 1 C d_Jg_reasonAgainst_5 rfl rfl ?_
  refine x_iload_n 2 C d_Jg_reasonAgainst_6 rfl rfl ?_
  refine x_cv (i := (9, 0)) (F := x_F ad cA) (As := [(.ref (ad (3, j))), (.int a2)]) (rest := []) C k_Jg_lacksTarget q_434 (c_Jg_lacksTarget ok j hj a2) rfl rfl rfl (Nat.le_of_ble_eq_true rfl) (Nat.le_of_ble_eq_true rfl) m_9 rfl rfl rfl rfl rfl (Nat.le_of_ble_eq_true rfl) d_Jg_reasonAgainst_7 ⟨Nat.zero_le _, Nat.zero_le _⟩ ?_
  generalize hq1 : s_Jg_lacksTarget stp psz j a2 = r1
  refine x_lets ?_
  refine x_if_eq 15 C d_Jg_reasonAgainst_10 (by decide) (fun z2 => ?_) (fun z2 => ?_)
  · refine x_aload_n 0 C d_Jg_reasonAgainst_15 rfl rfl ?_
    refine x_aload_n 1 C d_Jg_reasonAgainst_16 rfl rfl ?_
    refine x_cv (i := (9, 0)) (F := x_F ad cA) (As := [(.ref (ad (3, j)))]) (rest := []) C k_Jg_usesEmpty q_443 (c_Jg_usesEmpty ok j hj hw) rfl rfl rfl (Nat.le_of_ble_eq_true rfl) (Nat.le_of_ble_eq_true rfl) m_9 rfl rfl rfl rfl rfl (Nat.le_of_ble_eq_true rfl) d_Jg_reasonAgainst_17 ⟨Nat.zero_le _, Nat.zero_le _⟩ ?_
    generalize hq3 : s_Jg_usesEmpty stp gk j = r3
    refine x_lets ?_
    refine x_if_eq 25 C d_Jg_reasonAgainst_20 (by decide) (fun z4 => ?_) (fun z4 => ?_)
    · refine x_aload_n 1 C d_Jg_reasonAgainst_25 rfl rfl ?_
      refine x_cs (F := x_F ad cA) (As := [(.ref (ad (3, j)))]) (rest := []) C k_Jg_hasBadNumber q_459 (c_Jg_hasBadNumber ok j hj) rfl rfl rfl (Nat.le_of_ble_eq_true rfl) (Nat.le_of_ble_eq_true rfl) rfl rfl (Nat.le_of_ble_eq_true rfl) d_Jg_reasonAgainst_26 ⟨Nat.zero_le _, Nat.zero_le _⟩ ?_
      generalize hq5 : s_Jg_hasBadNumber stp j = r5
      refine x_lets ?_
      refine x_if_eq 34 C d_Jg_reasonAgainst_29 (by decide) (fun z6 => ?_) (fun z6 => ?_)
      · refine x_aload_n 0 C d_Jg_reasonAgainst_34 rfl rfl ?_
        refine x_aload_n 1 C d_Jg_reasonAgainst_35 rfl rfl ?_
        refine x_cv (i := (9, 0)) (F := x_F ad cA) (As := [(.ref (ad (3, j)))]) (rest := []) C k_Jg_hasWrongKind q_462 (c_Jg_hasWrongKind ok j hj hw) rfl rfl rfl (Nat.le_of_ble_eq_true rfl) (Nat.le_of_ble_eq_true rfl) m_9 rfl rfl rfl rfl rfl (Nat.le_of_ble_eq_true rfl) d_Jg_reasonAgainst_36 ⟨Nat.zero_le _, Nat.zero_le _⟩ ?_
        generalize hq7 : s_Jg_hasWrongKind stp gk gl gh j = r7
        refine x_lets ?_
        refine x_if_ne 50 C d_Jg_reasonAgainst_39 (by decide) (fun z8 => ?_) (fun z8 => ?_)
        · refine x_aload_n 0 C d_Jg_reasonAgainst_42 rfl rfl ?_
          refine x_aload_n 1 C d_Jg_reasonAgainst_43 rfl rfl ?_
          refine x_cv (i := (9, 0)) (F := x_F ad cA) (As := [(.ref (ad (3, j)))]) (rest := []) C k_Jg_storesOverNoRange q_506 (c_Jg_storesOverNoRange ok j hj hw) rfl rfl rfl (Nat.le_of_ble_eq_true rfl) (Nat.le_of_ble_eq_true rfl) m_9 rfl rfl rfl rfl rfl (Nat.le_of_ble_eq_true rfl) d_Jg_reasonAgainst_44 ⟨Nat.zero_le _, Nat.zero_le _⟩ ?_
          generalize hq9 : s_Jg_storesOverNoRange stp gk gl gh j = r9
          refine x_lets ?_
          refine x_if_eq 52 C d_Jg_reasonAgainst_47 (by decide) (fun z10 => ?_) (fun z10 => ?_)
          · refine x_aload_n 0 C d_Jg_reasonAgainst_52 rfl rfl ?_
            refine x_aload_n 1 C d_Jg_reasonAgainst_53 rfl rfl ?_
            refine x_cv (i := (9, 0)) (F := x_F ad cA) (As := [(.ref (ad (3, j)))]) (rest := []) C k_Jg_goesOutside q_510 (c_Jg_goesOutside ok j hj hw) rfl rfl rfl (Nat.le_of_ble_eq_true rfl) (Nat.le_of_ble_eq_true rfl) m_9 rfl rfl rfl rfl rfl (Nat.le_of_ble_eq_true rfl) d_Jg_reasonAgainst_54 ⟨Nat.zero_le _, Nat.zero_le _⟩ ?_
            generalize hq11 : s_Jg_goesOutside stp gk gl gh j = r11
            refine x_lets ?_
            refine x_if_eq 62 C d_Jg_reasonAgainst_57 (by decide) (fun z12 => ?_) (fun z12 => ?_)
            · refine x_aload_n 0 C d_Jg_reasonAgainst_62 rfl rfl ?_
              refine x_aload_n 1 C d_Jg_reasonAgainst_63 rfl rfl ?_
              refine x_cv (i := (9, 0)) (F := x_F ad cA) (As := [(.ref (ad (3, j)))]) (rest := []) C k_Jg_loadsUnfitCell q_524 (c_Jg_loadsUnfitCell ok j hj hw) rfl rfl rfl (Nat.le_of_ble_eq_true rfl) (Nat.le_of_ble_eq_true rfl) m_9 rfl rfl rfl rfl rfl (Nat.le_of_ble_eq_true rfl) d_Jg_reasonAgainst_64 ⟨Nat.zero_le _, Nat.zero_le _⟩ ?_
              generalize hq13 : s_Jg_loadsUnfitCell stp gk gl gh j = r13
              refine x_lets ?_
              refine x_if_eq 73 C d_Jg_reasonAgainst_67 (by decide) (fun z14 => ?_) (fun z14 => ?_)
              · refine x_aload_n 0 C d_Jg_reasonAgainst_73 rfl rfl ?_
                refine x_aload_n 1 C d_Jg_reasonAgainst_74 rfl rfl ?_
                refine x_cv (i := (9, 0)) (F := x_F ad cA) (As := [(.ref (ad (3, j)))]) (rest := []) C k_Jg_findsNoRow q_528 (c_Jg_findsNoRow ok j hj) rfl rfl rfl (Nat.le_of_ble_eq_true rfl) (Nat.le_of_ble_eq_true rfl) m_9 rfl rfl rfl rfl rfl (Nat.le_of_ble_eq_true rfl) d_Jg_reasonAgainst_75 ⟨Nat.zero_le _, Nat.zero_le _⟩ ?_
                generalize hq15 : s_Jg_findsNoRow stp gl gh j = r15
                refine x_lets ?_
                refine x_if_eq 86 C d_Jg_reasonAgainst_78 (by decide) (fun z16 => ?_) (fun z16 => ?_)
                · refine x_iconst (v := 0) C d_Jg_reasonAgainst_86 (by decide) ?_
                  exact x_iret C hr hlk rfl d_Jg_reasonAgainst_87
                · refine x_bipush (v := 7) C d_Jg_reasonAgainst_81 (by decide) ?_
                  refine x_goto 87 C d_Jg_reasonAgainst_83 (by decide) ?_
                  exact x_iret C hr hlk rfl d_Jg_reasonAgainst_87
              · refine x_bipush (v := 6) C d_Jg_reasonAgainst_70 (by decide) ?_
                exact x_iret C hr hlk rfl d_Jg_reasonAgainst_72
            · refine x_iconst (v := 5) C d_Jg_reasonAgainst_60 (by decide) ?_
              exact x_iret C hr hlk rfl d_Jg_reasonAgainst_61
          · refine x_iconst (v := 4) C d_Jg_reasonAgainst_50 (by decide) ?_
            exact x_iret C hr hlk rfl d_Jg_reasonAgainst_51
        · refine x_iconst (v := 4) C d_Jg_reasonAgainst_50 (by decide) ?_
          exact x_iret C hr hlk rfl d_Jg_reasonAgainst_51
      · refine x_iconst (v := 3) C d_Jg_reasonAgainst_32 (by decide) ?_
        exact x_iret C hr hlk rfl d_Jg_reasonAgainst_33
    · refine x_iconst (v := 2) C d_Jg_reasonAgainst_23 (by decide) ?_
      exact x_iret C hr hlk rfl d_Jg_reasonAgainst_24
  · refine x_iconst (v := 1) C d_Jg_reasonAgainst_13 (by decide) ?_
    exact x_iret C hr hlk rfl d_Jg_reasonAgainst_14
def s_Jg_reasonAgainst_n (a2 : Int32) : Int32 :=
  (1)
set_option maxHeartbeats 4000000 in
set_option maxRecDepth 100000 in
theorem c_Jg_reasonAgainst_n {l : Launch} {D : va_G} {cA : Nat → ClassId} {ad : x_I → Nat} (ok : x_ok (x_k D cA ad)) {stp : Nat → Nat → Int32} {psz : Int32} {gk : Nat → Nat → Int32} {gl : Nat → Nat → Int64} {gh : Nat → Nat → Int64} {opn : Nat → Int32} {cki : Nat → Int32} {ckl : Nat → Int64} {mp : Nat → Nat → Int64} {rk : Nat → Int32} {rv : Nat → Int64} {ri : Nat → Int32} {chk : Int32} {mo : Nat → Nat → Int32} {mi : Nat → Int32} {ml : Nat → Int64} {mk : Nat → Int32} {mlo : Nat → Int64} {mhi : Nat → Int64} {pk : Nat → Int32} {ps : Nat → Int32} {pl : Nat → Int64} {ph : Nat → Int64} {mm : Nat → Int64} {out : Nat → Int64} (a2 : Int32) : x_M l y_Jg_reasonAgainst (Cond.code y_Jg_reasonAgainst b_Jg_reasonAgainst 3 (Option.some Jvm.ClassFile.FieldType.int) :: x_Wd) { frames := 0, cells := 0, slots := 0, locals := 0 } (x_k D cA ad) (x_F ad cA) [(.ref (ad (9, 0))), .null, (.int a2)] ((stp, psz, gk, gl, gh, opn, cki, ckl, mp, rk, rv, ri, chk), (mo, mi, ml, mk, mlo, mhi, pk, ps, pl, ph, mm), out) ((fun q : Int32 => ((some (.int (q)), ((stp, psz, gk, gl, gh, opn, cki, ckl, mp, rk, rv, ri, chk), (mo, mi, ml, mk, mlo, mhi, pk, ps, pl, ph, mm), out)) : Option Value × x_S)) (s_Jg_reasonAgainst_n a2)) 0 0 := by
  refine x_start (κ := x_k D cA ad) (cc := b_Jg_reasonAgainst) (F := x_F ad cA) (wr := (fun q : Int32 => ((some (.int (q)), ((stp, psz, gk, gl, gh, opn, cki, ckl, mp, rk, rv, ri, chk), (mo, mi, ml, mk, mlo, mhi, pk, ps, pl, ph, mm), out)) : Option Value × x_S))) (q := s_Jg_reasonAgainst_n a2) (ret := (Option.some Jvm.ClassFile.FieldType.int)) (lv0 := [(0, (.ref (ad (9, 0)))), (1, .null), (2, (.int a2))]) ok (by decide) rfl (Nat.le_of_ble_eq_true rfl) rfl ?_
  intro p e s m below meth c C hr hlk
  unfold s_Jg_reasonAgainst_n
  refine x_aload_nN 1 C d_Jg_reasonAgainst_0 rfl rfl ?_
  refine x_ifnullN 13 C d_Jg_reasonAgainst_1 (by decide) ?_
  refine x_iconst (v := 1) C d_Jg_reasonAgainst_13 (by decide) ?_
  exact x_iret C hr hlk rfl d_Jg_reasonAgainst_14
