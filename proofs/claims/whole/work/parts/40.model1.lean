def s_Md_thrown (mi : Nat → Int32)  : Int32 :=
  (mi 6)
set_option maxHeartbeats 4000000 in
set_option maxRecDepth 100000 in
theorem c_Md_thrown {l : Launch} {D : va_G} {cA : Nat → ClassId} {ad : x_I → Nat} (ok : x_ok (x_k D cA ad)) {stp : Nat → Nat → Int32} {psz : Int32} {gk : Nat → Nat → Int32} {gl : Nat → Nat → Int64} {gh : Nat → Nat → Int64} {opn : Nat → Int32} {cki : Nat → Int32} {ckl : Nat → Int64} {mp : Nat → Nat → Int64} {rk : Nat → Int32} {rv : Nat → Int64} {ri : Nat → Int32} {chk : Int32} {mo : Nat → Nat → Int32} {mi : Nat → Int32} {ml : Nat → Int64} {mk : Nat → Int32} {mlo : Nat → Int64} {mhi : Nat → Int64} {pk : Nat → Int32} {ps : Nat → Int32} {pl : Nat → Int64} {ph : Nat → Int64} {mm : Nat → Int64} {out : Nat → Int64}  : x_M l y_Md_thrown (Cond.code y_Md_thrown b_Md_thrown 1 (Option.some Jvm.ClassFile.FieldType.int) :: x_Wd) { frames := 0, cells := 0, slots := 0, locals := 0 } (x_k D cA ad) (x_F ad cA) [(.ref (ad (18, 0)))] ((stp, psz, gk, gl, gh, opn, cki, ckl, mp, rk, rv, ri, chk), (mo, mi, ml, mk, mlo, mhi, pk, ps, pl, ph, mm), out) ((fun q : Int32 => ((some (.int (q)), ((stp, psz, gk, gl, gh, opn, cki, ckl, mp, rk, rv, ri, chk), (mo, mi, ml, mk, mlo, mhi, pk, ps, pl, ph, mm), out)) : Option Value × x_S)) (s_Md_thrown mi)) 0 0 := by
  refine x_start (κ := x_k D cA ad) (cc := b_Md_thrown) (F := x_F ad cA) (wr := (fun q : Int32 => ((some (.int (q)), ((stp, psz, gk, gl, gh, opn, cki, ckl, mp, rk, rv, ri, chk), (mo, mi, ml, mk, mlo, mhi, pk, ps, pl, ph, mm), out)) : Option Value × x_S))) (q := s_Md_thrown mi) (ret := (Option.some Jvm.ClassFile.FieldType.int)) (lv0 := [(0, (.ref (ad (18, 0))))]) ok (by decide) rfl (Nat.le_of_ble_eq_true rfl) rfl ?_
  intro p e s m below meth c C hr hlk
  unfold s_Md_thrown
  refine x_aload_n 0 C d_Md_thrown_0 rfl rfl ?_
  refine x_get (i := (18, 0)) (v := (.int (mi 6))) 11 C m_18 rfl rfl i_Md (by decide) (List.mem_cons_of_mem _ q_802) rfl d_Md_thrown_1 ?_
  exact x_iret C hr hlk rfl d_Md_thrown_4
def s_Md_in (a1 : Int64) (a2 : Int64) (a3 : Int64) : Int32 :=
  (if a1 < a2 then (0) else (if a3 < a1 then (0) else (1)))
set_option maxHeartbeats 4000000 in
set_option maxRecDepth 100000 in
theorem c_Md_in {l : Launch} {D : va_G} {cA : Nat → ClassId} {ad : x_I → Nat} (ok : x_ok (x_k D cA ad)) {stp : Nat → Nat → Int32} {psz : Int32} {gk : Nat → Nat → Int32} {gl : Nat → Nat → Int64} {gh : Nat → Nat → Int64} {opn : Nat → Int32} {cki : Nat → Int32} {ckl : Nat → Int64} {mp : Nat → Nat → Int64} {rk : Nat → Int32} {rv : Nat → Int64} {ri : Nat → Int32} {chk : Int32} {mo : Nat → Nat → Int32} {mi : Nat → Int32} {ml : Nat → Int64} {mk : Nat → Int32} {mlo : Nat → Int64} {mhi : Nat → Int64} {pk : Nat → Int32} {ps : Nat → Int32} {pl : Nat → Int64} {ph : Nat → Int64} {mm : Nat → Int64} {out : Nat → Int64} (a1 : Int64) (a2 : Int64) (a3 : Int64) : x_M l y_Md_in (Cond.code y_Md_in b_Md_in 6 (Option.some Jvm.ClassFile.FieldType.boolean) :: x_Wd) { frames := 0, cells := 0, slots := 0, locals := 0 } (x_k D cA ad) (x_F ad cA) [(.long a1), (.long a2), (.long a3)] ((stp, psz, gk, gl, gh, opn, cki, ckl, mp, rk, rv, ri, chk), (mo, mi, ml, mk, mlo, mhi, pk, ps, pl, ph, mm), out) ((fun q : Int32 => ((some (.int (q)), ((stp, psz, gk, gl, gh, opn, cki, ckl, mp, rk, rv, ri, chk), (mo, mi, ml, mk, mlo, mhi, pk, ps, pl, ph, mm), out)) : Option Value × x_S)) (s_Md_in a1 a2 a3)) 0 0 := by
  refine x_start (κ := x_k D cA ad) (cc := b_Md_in) (F := x_F ad cA) (wr := (fun q : Int32 => ((some (.int (q)), ((stp, psz, gk, gl, gh, opn, cki, ckl, mp, rk, rv, ri, chk), (mo, mi, ml, mk, mlo, mhi, pk, ps, pl, ph, mm), out)) : Option Value × x_S))) (q := s_Md_in a1 a2 a3) (ret := (Option.some Jvm.ClassFile.FieldType.boolean)) (lv0 := [(0, (.long a1)), (2, (.long a2)), (4, (.long a3))]) ok (by decide) rfl (Nat.le_of_ble_eq_true rfl) rfl ?_
  intro p e s m below meth c C hr hlk
  unfold s_Md_in
  refine x_lload_n 0 C d_Md_in_0 rfl rfl ?_
  refine x_lload_n 1 C d_Md_in_1 rfl rfl ?_
  refine x_lcmp_lt 17 C d_Md_in_2 d_Md_in_3 (by decide) (fun z1 => ?_) (fun z1 => ?_)
  · refine x_iconst (v := 0) C d_Md_in_17 (by decide) ?_
    exact x_zret C hr hlk rfl rfl d_Md_in_18
  · refine x_lload_n 0 C d_Md_in_6 rfl rfl ?_
    refine x_lload 2 C d_Md_in_7 rfl ?_
    refine x_lcmp_gt 17 C d_Md_in_9 d_Md_in_10 (by decide) (fun z2 => ?_) (fun z2 => ?_)
    · refine x_iconst (v := 0) C d_Md_in_17 (by decide) ?_
      exact x_zret C hr hlk rfl rfl d_Md_in_18
    · refine x_iconst (v := 1) C d_Md_in_13 (by decide) ?_
      refine x_goto 18 C d_Md_in_14 (by decide) ?_
      exact x_zret C hr hlk rfl rfl d_Md_in_18
def s_Md_bad (mi : Nat → Int32) (a1 : Int32) : Int32 × (Nat → Int32) :=
  (if a1 = 0 then (if a1 = 0 then (1, upd mi 6 1) else (0, upd mi 6 1)) else (if a1 = 0 then (1, upd mi 6 0) else (0, upd mi 6 0)))
set_option maxHeartbeats 4000000 in
set_option maxRecDepth 100000 in
theorem c_Md_bad {l : Launch} {D : va_G} {cA : Nat → ClassId} {ad : x_I → Nat} (ok : x_ok (x_k D cA ad)) {stp : Nat → Nat → Int32} {psz : Int32} {gk : Nat → Nat → Int32} {gl : Nat → Nat → Int64} {gh : Nat → Nat → Int64} {opn : Nat → Int32} {cki : Nat → Int32} {ckl : Nat → Int64} {mp : Nat → Nat → Int64} {rk : Nat → Int32} {rv : Nat → Int64} {ri : Nat → Int32} {chk : Int32} {mo : Nat → Nat → Int32} {mi : Nat → Int32} {ml : Nat → Int64} {mk : Nat → Int32} {mlo : Nat → Int64} {mhi : Nat → Int64} {pk : Nat → Int32} {ps : Nat → Int32} {pl : Nat → Int64} {ph : Nat → Int64} {mm : Nat → Int64} {out : Nat → Int64} (a1 : Int32) : x_M l y_Md_bad (Cond.code y_Md_bad b_Md_bad 2 (Option.some Jvm.ClassFile.FieldType.boolean) :: x_Wd) { frames := 0, cells := 0, slots := 0, locals := 0 } (x_k D cA ad) (x_F ad cA) [(.ref (ad (18, 0))), (.int a1)] ((stp, psz, gk, gl, gh, opn, cki, ckl, mp, rk, rv, ri, chk), (mo, mi, ml, mk, mlo, mhi, pk, ps, pl, ph, mm), out) ((fun q : Int32 × (Nat → Int32) => ((some (.int (q.1)), ((stp, psz, gk, gl, gh, opn, cki, ckl, mp, rk, rv, ri, chk), (mo, q.2, ml, mk, mlo, mhi, pk, ps, pl, ph, mm), out)) : Option Value × x_S)) (s_Md_bad mi a1)) 0 0 := by
  refine x_start (κ := x_k D cA ad) (cc := b_Md_bad) (F := x_F ad cA) (wr := (fun q : Int32 × (Nat → Int32) => ((some (.int (q.1)), ((stp, psz, gk, gl, gh, opn, cki, ckl, mp, rk, rv, ri, chk), (mo, q.2, ml, mk, mlo, mhi, pk, ps, pl, ph, mm), out)) : Option Value × x_S))) (q := s_Md_bad mi a1) (ret := (Option.some Jvm.ClassFile.FieldType.boolean)) (lv0 := [(0, (.ref (ad (18, 0)))), (1, (.int a1))]) ok (by decide) rfl (Nat.le_of_ble_eq_true rfl) rfl ?_
  intro p e s m below meth c C hr hlk
  unfold s_Md_bad
  refine x_aload_n 0 C d_Md_bad_0 rfl rfl ?_
  refine x_iload_n 1 C d_Md_bad_1 rfl rfl ?_
  refine x_if_eq 9 C d_Md_bad_2 (by decide) (fun z1 => ?_) (fun z1 => ?_)
  · refine x_iconst (v := 1) C d_Md_bad_9 (by decide) ?_
    refine x_put (i := (18, 0)) (f' := x_F ad cA ((stp, psz, gk, gl, gh, opn, cki, ckl, mp, rk, rv, ri, chk), (mo, upd mi 6 1, ml, mk, mlo, mhi, pk, ps, pl, ph, mm), out)) 11 C m_18 rfl rfl i_Md t_Md_ok n_Md (by decide) (List.mem_cons_of_mem _ q_802) rfl rfl rfl (Nat.le_of_ble_eq_true rfl) d_Md_bad_10 e_mi6 ?_
    refine x_iload_n 1 C d_Md_bad_13 rfl rfl ?_
    refine x_if_ne 21 C d_Md_bad_14 (by decide) (fun z2 => ?_) (fun z2 => ?_)
    · refine x_iconst (v := 1) C d_Md_bad_17 (by decide) ?_
      refine x_goto 22 C d_Md_bad_18 (by decide) ?_
      exact x_zret C hr hlk rfl rfl d_Md_bad_22
    · refine x_iconst (v := 0) C d_Md_bad_21 (by decide) ?_
      exact x_zret C hr hlk rfl rfl d_Md_bad_22
  · refine x_iconst (v := 0) C d_Md_bad_5 (by decide) ?_
    refine x_goto 10 C d_Md_bad_6 (by decide) ?_
    refine x_put (i := (18, 0)) (f' := x_F ad cA ((stp, psz, gk, gl, gh, opn, cki, ckl, mp, rk, rv, ri, chk), (mo, upd mi 6 0, ml, mk, mlo, mhi, pk, ps, pl, ph, mm), out)) 11 C m_18 rfl rfl i_Md t_Md_ok n_Md (by decide) (List.mem_cons_of_mem _ q_802) rfl rfl rfl (Nat.le_of_ble_eq_true rfl) d_Md_bad_10 e_mi6 ?_
    refine x_iload_n 1 C d_Md_bad_13 rfl rfl ?_
    refine x_if_ne 21 C d_Md_bad_14 (by decide) (fun z3 => ?_) (fun z3 => ?_)
    · refine x_iconst (v := 1) C d_Md_bad_17 (by decide) ?_
      refine x_goto 22 C d_Md_bad_18 (by decide) ?_
      exact x_zret C hr hlk rfl rfl d_Md_bad_22
    · refine x_iconst (v := 0) C d_Md_bad_21 (by decide) ?_
      exact x_zret C hr hlk rfl rfl d_Md_bad_22
def s_Md_fits (a1 : Int32) (a2 : Int32) (a3 : Int32) (a4 : Int32) : Int32 :=
  (x_let (s_Md_in (Int32.toInt64 a1) 0 17) fun r1 => (if r1 = 0 then (0) else (x_let (s_Md_in (Int32.toInt64 a2) 0 5) fun r3 => (if r3 = 0 then (0) else (x_let (s_Md_in (Int32.toInt64 a3) 0 5) fun r5 => (if r5 = 0 then (0) else (x_let (s_Md_in (Int32.toInt64 a4) 0 23) fun r7 => (if r7 = 0 then (0) else (1)))))))))
set_option maxHeartbeats 4000000 in
set_option maxRecDepth 100000 in
theorem c_Md_fits {l : Launch} {D : va_G} {cA : Nat → ClassId} {ad : x_I → Nat} (ok : x_ok (x_k D cA ad)) {stp : Nat → Nat → Int32} {psz : Int32} {gk : Nat → Nat → Int32} {gl : Nat → Nat → Int64} {gh : Nat → Nat → Int64} {opn : Nat → Int32} {cki : Nat → Int32} {ckl : Nat → Int64} {mp : Nat → Nat → Int64} {rk : Nat → Int32} {rv : Nat → Int64} {ri : Nat → Int32} {chk : Int32} {mo : Nat → Nat → Int32} {mi : Nat → Int32} {ml : Nat → Int64} {mk : Nat → Int32} {mlo : Nat → Int64} {mhi : Nat → Int64} {pk : Nat → Int32} {ps : Nat → Int32} {pl : Nat → Int64} {ph : Nat → Int64} {mm : Nat → Int64} {out : Nat → Int64} (a1 : Int32) (a2 : Int32) (a3 : Int32) (a4 : Int32) : x_M l y_Md_fits (Cond.code y_Md_fits b_Md_fits 5 (Option.some Jvm.ClassFile.FieldType.boolean) :: x_Wd) { frames := 1, cells := 0, slots := 0, locals := 25 } (x_k D cA ad) (x_F ad cA) [(.ref (ad (18, 0))), (.int a1), (.int a2), (.int a3), (.int a4)] ((stp, psz, gk, gl, gh, opn, cki, ckl, mp, rk, rv, ri, chk), (mo, mi, ml, mk, mlo, mhi, pk, ps, pl, ph, mm), out) ((fun q : Int32 => ((some (.int (q)), ((stp, psz, gk, gl, gh, opn, cki, ckl, mp, rk, rv, ri, chk), (mo, mi, ml, mk, mlo, mhi, pk, ps, pl, ph, mm), out)) : Option Value × x_S)) (s_Md_fits a1 a2 a3 a4)) 0 0 := by
  refine x_start (κ := x_k D cA ad) (cc := b_Md_fits) (F := x_F ad cA) (wr := (fun q : Int32 => ((some (.int (q)), ((stp, psz, gk, gl, gh, opn, cki, ckl, mp, rk, rv, ri, chk), (mo, mi, ml, mk, mlo, mhi, pk, ps, pl, ph, mm), out)) : Option Value × x_S))) (q := s_Md_fits a1 a2 a3 a4) (ret := (Option.some Jvm.ClassFile.FieldType.boolean)) (lv0 := [(0, (.ref (ad (18, 0)))), (1, (.int a1)), (2, (.int a2)), (3, (.int a3)), (4, (.int a4))]) ok (by decide) rfl (Nat.le_of_ble_eq_true rfl) rfl ?_
  intro p e s m below meth c C hr hlk
  unfold s_Md_fits
  refine x_iload_n 1 C d_Md_fits_0 rfl rfl ?_
  refine x_i2l C d_Md_fits_1 ?_
  refine x_lconst (v := 0) C d_Md_fits_2 (by decide) ?_
  refine x_ldc2 (v := 17) C (List.mem_cons_of_mem _ q_882) d_Md_fits_3 ?_
  refine x_cs (F := x_F ad cA) (As := [(.long (Int32.toInt64 a1)), (.long 0), (.long 17)]) (rest := []) C k_Md_in q_883 (c_Md_in ok (Int32.toInt64 a1) 0 17) rfl rfl rfl (Nat.le_of_ble_eq_true rfl) (Nat.le_of_ble_eq_true rfl) rfl rfl (Nat.le_of_ble_eq_true rfl) d_Md_fits_6 ⟨Nat.zero_le _, Nat.zero_le _⟩ ?_
  generalize hq1 : s_Md_in (Int32.toInt64 a1) 0 17 = r1
  refine x_lets ?_
  refine x_if_eq 53 C d_Md_fits_9 (by decide) (fun z2 => ?_) (fun z2 => ?_)
  · refine x_iconst (v := 0) C d_Md_fits_53 (by decide) ?_
    exact x_zret C hr hlk rfl rfl d_Md_fits_54
  · refine x_iload_n 2 C d_Md_fits_12 rfl rfl ?_
    refine x_i2l C d_Md_fits_13 ?_
    refine x_lconst (v := 0) C d_Md_fits_14 (by decide) ?_
    refine x_ldc2 (v := 5) C (List.mem_cons_of_mem _ q_886) d_Md_fits_15 ?_
    refine x_cs (F := x_F ad cA) (As := [(.long (Int32.toInt64 a2)), (.long 0), (.long 5)]) (rest := []) C k_Md_in q_883 (c_Md_in ok (Int32.toInt64 a2) 0 5) rfl rfl rfl (Nat.le_of_ble_eq_true rfl) (Nat.le_of_ble_eq_true rfl) rfl rfl (Nat.le_of_ble_eq_true rfl) d_Md_fits_18 ⟨Nat.zero_le _, Nat.zero_le _⟩ ?_
    generalize hq3 : s_Md_in (Int32.toInt64 a2) 0 5 = r3
    refine x_lets ?_
    refine x_if_eq 53 C d_Md_fits_21 (by decide) (fun z4 => ?_) (fun z4 => ?_)
    · refine x_iconst (v := 0) C d_Md_fits_53 (by decide) ?_
      exact x_zret C hr hlk rfl rfl d_Md_fits_54
    · refine x_iload_n 3 C d_Md_fits_24 rfl rfl ?_
      refine x_i2l C d_Md_fits_25 ?_
      refine x_lconst (v := 0) C d_Md_fits_26 (by decide) ?_
      refine x_ldc2 (v := 5) C (List.mem_cons_of_mem _ q_886) d_Md_fits_27 ?_
      refine x_cs (F := x_F ad cA) (As := [(.long (Int32.toInt64 a3)), (.long 0), (.long 5)]) (rest := []) C k_Md_in q_883 (c_Md_in ok (Int32.toInt64 a3) 0 5) rfl rfl rfl (Nat.le_of_ble_eq_true rfl) (Nat.le_of_ble_eq_true rfl) rfl rfl (Nat.le_of_ble_eq_true rfl) d_Md_fits_30 ⟨Nat.zero_le _, Nat.zero_le _⟩ ?_
      generalize hq5 : s_Md_in (Int32.toInt64 a3) 0 5 = r5
      refine x_lets ?_
      refine x_if_eq 53 C d_Md_fits_33 (by decide) (fun z6 => ?_) (fun z6 => ?_)
      · refine x_iconst (v := 0) C d_Md_fits_53 (by decide) ?_
        exact x_zret C hr hlk rfl rfl d_Md_fits_54
      · refine x_iload 4 C d_Md_fits_36 rfl ?_
        refine x_i2l C d_Md_fits_38 ?_
        refine x_lconst (v := 0) C d_Md_fits_39 (by decide) ?_
        refine x_ldc2 (v := 23) C (List.mem_cons_of_mem _ q_887) d_Md_fits_40 ?_
        refine x_cs (F := x_F ad cA) (As := [(.long (Int32.toInt64 a4)), (.long 0), (.long 23)]) (rest := []) C k_Md_in q_883 (c_Md_in ok (Int32.toInt64 a4) 0 23) rfl rfl rfl (Nat.le_of_ble_eq_true rfl) (Nat.le_of_ble_eq_true rfl) rfl rfl (Nat.le_of_ble_eq_true rfl) d_Md_fits_43 ⟨Nat.zero_le _, Nat.zero_le _⟩ ?_
        generalize hq7 : s_Md_in (Int32.toInt64 a4) 0 23 = r7
        refine x_lets ?_
        refine x_if_eq 53 C d_Md_fits_46 (by decide) (fun z8 => ?_) (fun z8 => ?_)
        · refine x_iconst (v := 0) C d_Md_fits_53 (by decide) ?_
          exact x_zret C hr hlk rfl rfl d_Md_fits_54
        · refine x_iconst (v := 1) C d_Md_fits_49 (by decide) ?_
          refine x_goto 54 C d_Md_fits_50 (by decide) ?_
          exact x_zret C hr hlk rfl rfl d_Md_fits_54
def s_Md_set (mo : Nat → Nat → Int32) (mi : Nat → Int32) (a1 : Int32) (a2 : Int32) (a3 : Int32) (a4 : Int32) (a5 : Int32) (a6 : Int32) : (Nat → Nat → Int32) × (Nat → Int32) :=
  (va_up (va_up (va_up (va_up (va_up mo 0 (upd (mo 0) a1.toNatClampNeg a2)) 1 (upd ((va_up mo 0 (upd (mo 0) a1.toNatClampNeg a2)) 1) a1.toNatClampNeg a3)) 2 (upd ((va_up (va_up mo 0 (upd (mo 0) a1.toNatClampNeg a2)) 1 (upd ((va_up mo 0 (upd (mo 0) a1.toNatClampNeg a2)) 1) a1.toNatClampNeg a3)) 2) a1.toNatClampNeg a4)) 3 (upd ((va_up (va_up (va_up mo 0 (upd (mo 0) a1.toNatClampNeg a2)) 1 (upd ((va_up mo 0 (upd (mo 0) a1.toNatClampNeg a2)) 1) a1.toNatClampNeg a3)) 2 (upd ((va_up (va_up mo 0 (upd (mo 0) a1.toNatClampNeg a2)) 1 (upd ((va_up mo 0 (upd (mo 0) a1.toNatClampNeg a2)) 1) a1.toNatClampNeg a3)) 2) a1.toNatClampNeg a4)) 3) a1.toNatClampNeg a5)) 4 (upd ((va_up (va_up (va_up (va_up mo 0 (upd (mo 0) a1.toNatClampNeg a2)) 1 (upd ((va_up mo 0 (upd (mo 0) a1.toNatClampNeg a2)) 1) a1.toNatClampNeg a3)) 2 (upd ((va_up (va_up mo 0 (upd (mo 0) a1.toNatClampNeg a2)) 1 (upd ((va_up mo 0 (upd (mo 0) a1.toNatClampNeg a2)) 1) a1.toNatClampNeg a3)) 2) a1.toNatClampNeg a4)) 3 (upd ((va_up (va_up (va_up mo 0 (upd (mo 0) a1.toNatClampNeg a2)) 1 (upd ((va_up mo 0 (upd (mo 0) a1.toNatClampNeg a2)) 1) a1.toNatClampNeg a3)) 2 (upd ((va_up (va_up mo 0 (upd (mo 0) a1.toNatClampNeg a2)) 1 (upd ((va_up mo 0 (upd (mo 0) a1.toNatClampNeg a2)) 1) a1.toNatClampNeg a3)) 2) a1.toNatClampNeg a4)) 3) a1.toNatClampNeg a5)) 4) a1.toNatClampNeg a6), upd mi 7 0)
def k_ok_Md_set (mo : Nat → Nat → Int32) (mi : Nat → Int32) (a1 : Int32) (a2 : Int32) (a3 : Int32) (a4 : Int32) (a5 : Int32) (a6 : Int32) : Prop :=
  (vp_in a1 24 ∧ True)
set_option maxHeartbeats 4000000 in
set_option maxRecDepth 100000 in
theorem c_Md_set {l : Launch} {D : va_G} {cA : Nat → ClassId} {ad : x_I → Nat} (ok : x_ok (x_k D cA ad)) {stp : Nat → Nat → Int32} {psz : Int32} {gk : Nat → Nat → Int32} {gl : Nat → Nat → Int64} {gh : Nat → Nat → Int64} {opn : Nat → Int32} {cki : Nat → Int32} {ckl : Nat → Int64} {mp : Nat → Nat → Int64} {rk : Nat → Int32} {rv : Nat → Int64} {ri : Nat → Int32} {chk : Int32} {mo : Nat → Nat → Int32} {mi : Nat → Int32} {ml : Nat → Int64} {mk : Nat → Int32} {mlo : Nat → Int64} {mhi : Nat → Int64} {pk : Nat → Int32} {ps : Nat → Int32} {pl : Nat → Int64} {ph : Nat → Int64} {mm : Nat → Int64} {out : Nat → Int64} (a1 : Int32) (a2 : Int32) (a3 : Int32) (a4 : Int32) (a5 : Int32) (a6 : Int32) (hk : k_ok_Md_set mo mi a1 a2 a3 a4 a5 a6) : x_M l y_Md_set (Cond.code y_Md_set b_Md_set 7 (Option.none : Option Jvm.ClassFile.FieldType) :: x_Wd) { frames := 0, cells := 0, slots := 0, locals := 0 } (x_k D cA ad) (x_F ad cA) [(.ref (ad (18, 0))), (.int a1), (.int a2), (.int a3), (.int a4), (.int a5), (.int a6)] ((stp, psz, gk, gl, gh, opn, cki, ckl, mp, rk, rv, ri, chk), (mo, mi, ml, mk, mlo, mhi, pk, ps, pl, ph, mm), out) ((fun q : (Nat → Nat → Int32) × (Nat → Int32) => ((none, ((stp, psz, gk, gl, gh, opn, cki, ckl, mp, rk, rv, ri, chk), (q.1, q.2, ml, mk, mlo, mhi, pk, ps, pl, ph, mm), out)) : Option Value × x_S)) (s_Md_set mo mi a1 a2 a3 a4 a5 a6)) 0 0 := by
  refine x_start (κ := x_k D cA ad) (cc := b_Md_set) (F := x_F ad cA) (wr := (fun q : (Nat → Nat → Int32) × (Nat → Int32) => ((none, ((stp, psz, gk, gl, gh, opn, cki, ckl, mp, rk, rv, ri, chk), (q.1, q.2, ml, mk, mlo, mhi, pk, ps, pl, ph, mm), out)) : Option Value × x_S))) (q := s_Md_set mo mi a1 a2 a3 a4 a5 a6) (ret := (Option.none : Option Jvm.ClassFile.FieldType)) (lv0 := [(0, (.ref (ad (18, 0)))), (1, (.int a1)), (2, (.int a2)), (3, (.int a3)), (4, (.int a4)), (5, (.int a5)), (6, (.int a6))]) ok (by decide) rfl (Nat.le_of_ble_eq_true rfl) rfl ?_
  intro p e s m below meth c C hr hlk
  unfold s_Md_set
  unfold k_ok_Md_set at hk
  refine x_aload_n 0 C d_Md_set_0 rfl rfl ?_
  refine x_get (i := (18, 0)) (v := (.ref (ad (19, 0)))) 0 C m_18 rfl rfl i_Md (by decide) (List.mem_cons_of_mem _ q_791) rfl d_Md_set_1 ?_
  refine x_iload_n 1 C d_Md_set_4 rfl rfl ?_
  refine x_iload_n 2 C d_Md_set_5 rfl rfl ?_
  have w1 := hk.1
  have hk := hk.2
  refine x_iast (i := (19, 0)) (g := mo 0) (f' := x_F ad cA ((stp, psz, gk, gl, gh, opn, cki, ckl, mp, rk, rv, ri, chk), (va_up mo 0 (upd (mo 0) a1.toNatClampNeg a2), mi, ml, mk, mlo, mhi, pk, ps, pl, ph, mm), out)) 0 C m_19 rfl rfl w1 d_Md_set_6 e_mo0 ?_
  refine x_aload_n 0 C d_Md_set_7 rfl rfl ?_
  refine x_get (i := (18, 0)) (v := (.ref (ad (20, 0)))) 1 C m_18 rfl rfl i_Md (by decide) (List.mem_cons_of_mem _ q_792) rfl d_Md_set_8 ?_
  refine x_iload_n 1 C d_Md_set_11 rfl rfl ?_
  refine x_iload_n 3 C d_Md_set_12 rfl rfl ?_
  refine x_iast (i := (20, 0)) (g := (va_up mo 0 (upd (mo 0) a1.toNatClampNeg a2)) 1) (f' := x_F ad cA ((stp, psz, gk, gl, gh, opn, cki, ckl, mp, rk, rv, ri, chk), (va_up (va_up mo 0 (upd (mo 0) a1.toNatClampNeg a2)) 1 (upd ((va_up mo 0 (upd (mo 0) a1.toNatClampNeg a2)) 1) a1.toNatClampNeg a3), mi, ml, mk, mlo, mhi, pk, ps, pl, ph, mm), out)) 0 C m_20 rfl rfl w1 d_Md_set_13 e_mo1 ?_
  refine x_aload_n 0 C d_Md_set_14 rfl rfl ?_
  refine x_get (i := (18, 0)) (v := (.ref (ad (21, 0)))) 2 C m_18 rfl rfl i_Md (by decide) (List.mem_cons_of_mem _ q_793) rfl d_Md_set_15 ?_
  refine x_iload_n 1 C d_Md_set_18 rfl rfl ?_
  refine x_iload 4 C d_Md_set_19 rfl ?_
  refine x_iast (i := (21, 0)) (g := (va_up (va_up mo 0 (upd (mo 0) a1.toNatClampNeg a2)) 1 (upd ((va_up mo 0 (upd (mo 0) a1.toNatClampNeg a2)) 1) a1.toNatClampNeg a3)) 2) (f' := x_F ad cA ((stp, psz, gk, gl, gh, opn, cki, ckl, mp, rk, rv, ri, chk), (va_up (va_up (va_up mo 0 (upd (mo 0) a1.toNatClampNeg a2)) 1 (upd ((va_up mo 0 (upd (mo 0) a1.toNatClampNeg a2)) 1) a1.toNatClampNeg a3)) 2 (upd ((va_up (va_up mo 0 (upd (mo 0) a1.toNatClampNeg a2)) 1 (upd ((va_up mo 0 (upd (mo 0) a1.toNatClampNeg a2)) 1) a1.toNatClampNeg a3)) 2) a1.toNatClampNeg a4), mi, ml, mk, mlo, mhi, pk, ps, pl, ph, mm), out)) 0 C m_21 rfl rfl w1 d_Md_set_21 e_mo2 ?_
  refine x_aload_n 0 C d_Md_set_22 rfl rfl ?_
  refine x_get (i := (18, 0)) (v := (.ref (ad (22, 0)))) 3 C m_18 rfl rfl i_Md (by decide) (List.mem_cons_of_mem _ q_794) rfl d_Md_set_23 ?_
  refine x_iload_n 1 C d_Md_set_26 rfl rfl ?_
  refine x_iload 5 C d_Md_set_27 rfl ?_
  refine x_iast (i := (22, 0)) (g := (va_up (va_up (va_up mo 0 (upd (mo 0) a1.toNatClampNeg a2)) 1 (upd ((va_up mo 0 (upd (mo 0) a1.toNatClampNeg a2)) 1) a1.toNatClampNeg a3)) 2 (upd ((va_up (va_up mo 0 (upd (mo 0) a1.toNatClampNeg a2)) 1 (upd ((va_up mo 0 (upd (mo 0) a1.toNatClampNeg a2)) 1) a1.toNatClampNeg a3)) 2) a1.toNatClampNeg a4)) 3) (f' := x_F ad cA ((stp, psz, gk, gl, gh, opn, cki, ckl, mp, rk, rv, ri, chk), (va_up (va_up (va_up (va_up mo 0 (upd (mo 0) a1.toNatClampNeg a2)) 1 (upd ((va_up mo 0 (upd (mo 0) a1.toNatClampNeg a2)) 1) a1.toNatClampNeg a3)) 2 (upd ((va_up (va_up mo 0 (upd (mo 0) a1.toNatClampNeg a2)) 1 (upd ((va_up mo 0 (upd (mo 0) a1.toNatClampNeg a2)) 1) a1.toNatClampNeg a3)) 2) a1.toNatClampNeg a4)) 3 (upd ((va_up (va_up (va_up mo 0 (upd (mo 0) a1.toNatClampNeg a2)) 1 (upd ((va_up mo 0 (upd (mo 0) a1.toNatClampNeg a2)) 1) a1.toNatClampNeg a3)) 2 (upd ((va_up (va_up mo 0 (upd (mo 0) a1.toNatClampNeg a2)) 1 (upd ((va_up mo 0 (upd (mo 0) a1.toNatClampNeg a2)) 1) a1.toNatClampNeg a3)) 2) a1.toNatClampNeg a4)) 3) a1.toNatClampNeg a5), mi, ml, mk, mlo, mhi, pk, ps, pl, ph, mm), out)) 0 C m_22 rfl rfl w1 d_Md_set_29 e_mo3 ?_
  refine x_aload_n 0 C d_Md_set_30 rfl rfl ?_
  refine x_get (i := (18, 0)) (v := (.ref (ad (23, 0)))) 4 C m_18 rfl rfl i_Md (by decide) (List.mem_cons_of_mem _ q_795) rfl d_Md_set_31 ?_
  refine x_iload_n 1 C d_Md_set_34 rfl rfl ?_
  refine x_iload 6 C d_Md_set_35 rfl ?_
  refine x_iast (i := (23, 0)) (g := (va_up (va_up (va_up (va_up mo 0 (upd (mo 0) a1.toNatClampNeg a2)) 1 (upd ((va_up mo 0 (upd (mo 0) a1.toNatClampNeg a2)) 1) a1.toNatClampNeg a3)) 2 (upd ((va_up (va_up mo 0 (upd (mo 0) a1.toNatClampNeg a2)) 1 (upd ((va_up mo 0 (upd (mo 0) a1.toNatClampNeg a2)) 1) a1.toNatClampNeg a3)) 2) a1.toNatClampNeg a4)) 3 (upd ((va_up (va_up (va_up mo 0 (upd (mo 0) a1.toNatClampNeg a2)) 1 (upd ((va_up mo 0 (upd (mo 0) a1.toNatClampNeg a2)) 1) a1.toNatClampNeg a3)) 2 (upd ((va_up (va_up mo 0 (upd (mo 0) a1.toNatClampNeg a2)) 1 (upd ((va_up mo 0 (upd (mo 0) a1.toNatClampNeg a2)) 1) a1.toNatClampNeg a3)) 2) a1.toNatClampNeg a4)) 3) a1.toNatClampNeg a5)) 4) (f' := x_F ad cA ((stp, psz, gk, gl, gh, opn, cki, ckl, mp, rk, rv, ri, chk), (va_up (va_up (va_up (va_up (va_up mo 0 (upd (mo 0) a1.toNatClampNeg a2)) 1 (upd ((va_up mo 0 (upd (mo 0) a1.toNatClampNeg a2)) 1) a1.toNatClampNeg a3)) 2 (upd ((va_up (va_up mo 0 (upd (mo 0) a1.toNatClampNeg a2)) 1 (upd ((va_up mo 0 (upd (mo 0) a1.toNatClampNeg a2)) 1) a1.toNatClampNeg a3)) 2) a1.toNatClampNeg a4)) 3 (upd ((va_up (va_up (va_up mo 0 (upd (mo 0) a1.toNatClampNeg a2)) 1 (upd ((va_up mo 0 (upd (mo 0) a1.toNatClampNeg a2)) 1) a1.toNatClampNeg a3)) 2 (upd ((va_up (va_up mo 0 (upd (mo 0) a1.toNatClampNeg a2)) 1 (upd ((va_up mo 0 (upd (mo 0) a1.toNatClampNeg a2)) 1) a1.toNatClampNeg a3)) 2) a1.toNatClampNeg a4)) 3) a1.toNatClampNeg a5)) 4 (upd ((va_up (va_up (va_up (va_up mo 0 (upd (mo 0) a1.toNatClampNeg a2)) 1 (upd ((va_up mo 0 (upd (mo 0) a1.toNatClampNeg a2)) 1) a1.toNatClampNeg a3)) 2 (upd ((va_up (va_up mo 0 (upd (mo 0) a1.toNatClampNeg a2)) 1 (upd ((va_up mo 0 (upd (mo 0) a1.toNatClampNeg a2)) 1) a1.toNatClampNeg a3)) 2) a1.toNatClampNeg a4)) 3 (upd ((va_up (va_up (va_up mo 0 (upd (mo 0) a1.toNatClampNeg a2)) 1 (upd ((va_up mo 0 (upd (mo 0) a1.toNatClampNeg a2)) 1) a1.toNatClampNeg a3)) 2 (upd ((va_up (va_up mo 0 (upd (mo 0) a1.toNatClampNeg a2)) 1 (upd ((va_up mo 0 (upd (mo 0) a1.toNatClampNeg a2)) 1) a1.toNatClampNeg a3)) 2) a1.toNatClampNeg a4)) 3) a1.toNatClampNeg a5)) 4) a1.toNatClampNeg a6), mi, ml, mk, mlo, mhi, pk, ps, pl, ph, mm), out)) 0 C m_23 rfl rfl w1 d_Md_set_37 e_mo4 ?_
  refine x_aload_n 0 C d_Md_set_38 rfl rfl ?_
  refine x_iconst (v := 0) C d_Md_set_39 (by decide) ?_
  refine x_put (i := (18, 0)) (f' := x_F ad cA ((stp, psz, gk, gl, gh, opn, cki, ckl, mp, rk, rv, ri, chk), (va_up (va_up (va_up (va_up (va_up mo 0 (upd (mo 0) a1.toNatClampNeg a2)) 1 (upd ((va_up mo 0 (upd (mo 0) a1.toNatClampNeg a2)) 1) a1.toNatClampNeg a3)) 2 (upd ((va_up (va_up mo 0 (upd (mo 0) a1.toNatClampNeg a2)) 1 (upd ((va_up mo 0 (upd (mo 0) a1.toNatClampNeg a2)) 1) a1.toNatClampNeg a3)) 2) a1.toNatClampNeg a4)) 3 (upd ((va_up (va_up (va_up mo 0 (upd (mo 0) a1.toNatClampNeg a2)) 1 (upd ((va_up mo 0 (upd (mo 0) a1.toNatClampNeg a2)) 1) a1.toNatClampNeg a3)) 2 (upd ((va_up (va_up mo 0 (upd (mo 0) a1.toNatClampNeg a2)) 1 (upd ((va_up mo 0 (upd (mo 0) a1.toNatClampNeg a2)) 1) a1.toNatClampNeg a3)) 2) a1.toNatClampNeg a4)) 3) a1.toNatClampNeg a5)) 4 (upd ((va_up (va_up (va_up (va_up mo 0 (upd (mo 0) a1.toNatClampNeg a2)) 1 (upd ((va_up mo 0 (upd (mo 0) a1.toNatClampNeg a2)) 1) a1.toNatClampNeg a3)) 2 (upd ((va_up (va_up mo 0 (upd (mo 0) a1.toNatClampNeg a2)) 1 (upd ((va_up mo 0 (upd (mo 0) a1.toNatClampNeg a2)) 1) a1.toNatClampNeg a3)) 2) a1.toNatClampNeg a4)) 3 (upd ((va_up (va_up (va_up mo 0 (upd (mo 0) a1.toNatClampNeg a2)) 1 (upd ((va_up mo 0 (upd (mo 0) a1.toNatClampNeg a2)) 1) a1.toNatClampNeg a3)) 2 (upd ((va_up (va_up mo 0 (upd (mo 0) a1.toNatClampNeg a2)) 1 (upd ((va_up mo 0 (upd (mo 0) a1.toNatClampNeg a2)) 1) a1.toNatClampNeg a3)) 2) a1.toNatClampNeg a4)) 3) a1.toNatClampNeg a5)) 4) a1.toNatClampNeg a6), upd mi 7 0, ml, mk, mlo, mhi, pk, ps, pl, ph, mm), out)) 12 C m_18 rfl rfl i_Md t_Md_ok n_Md (by decide) (List.mem_cons_of_mem _ q_803) rfl rfl rfl (Nat.le_of_ble_eq_true rfl) d_Md_set_40 e_mi7 ?_
  exact x_vret C hr hlk rfl d_Md_set_43
def s_Md_add (mo : Nat → Nat → Int32) (mi : Nat → Int32) (a1 : Int32) (a2 : Int32) (a3 : Int32) (a4 : Int32) (a5 : Int32) : Int32 × (Nat → Nat → Int32) × (Nat → Int32) :=
  (x_let (s_Md_fits a1 a2 a3 a5) fun r1 => (x_let (s_Md_bad mi r1) fun (r2, mi2) => (if r2 = 0 then (if (mi2 0) = 24 then (0, mo, upd mi2 6 2) else (x_let (s_Md_set mo mi2 (mi2 0) a1 a2 a3 a4 a5) fun (mo6, mi6) => (((upd mi6 0 ((mi6 0) + 1)) 0) - 1, mo6, upd mi6 0 ((mi6 0) + 1)))) else (0, mo, mi2))))
def k_ok_Md_add (mo : Nat → Nat → Int32) (mi : Nat → Int32) (a1 : Int32) (a2 : Int32) (a3 : Int32) (a4 : Int32) (a5 : Int32) : Prop :=
  (x_let (s_Md_fits a1 a2 a3 a5) fun r1 => (x_let (s_Md_bad mi r1) fun (r2, mi2) => (if r2 = 0 then (if (mi2 0) = 24 then True else (k_ok_Md_set mo mi2 (mi2 0) a1 a2 a3 a4 a5 ∧ True)) else True)))
set_option maxHeartbeats 4000000 in
set_option maxRecDepth 100000 in
theorem c_Md_add {l : Launch} {D : va_G} {cA : Nat → ClassId} {ad : x_I → Nat} (ok : x_ok (x_k D cA ad)) {stp : Nat → Nat → Int32} {psz : Int32} {gk : Nat → Nat → Int32} {gl : Nat → Nat → Int64} {gh : Nat → Nat → Int64} {opn : Nat → Int32} {cki : Nat → Int32} {ckl : Nat → Int64} {mp : Nat → Nat → Int64} {rk : Nat → Int32} {rv : Nat → Int64} {ri : Nat → Int32} {chk : Int32} {mo : Nat → Nat → Int32} {mi : Nat → Int32} {ml : Nat → Int64} {mk : Nat → Int32} {mlo : Nat → Int64} {mhi : Nat → Int64} {pk : Nat → Int32} {ps : Nat → Int32} {pl : Nat → Int64} {ph : Nat → Int64} {mm : Nat → Int64} {out : Nat → Int64} (a1 : Int32) (a2 : Int32) (a3 : Int32) (a4 : Int32) (a5 : Int32) (hk : k_ok_Md_add mo mi a1 a2 a3 a4 a5) : x_M l y_Md_add (Cond.code y_Md_add b_Md_add 6 (Option.some Jvm.ClassFile.FieldType.int) :: x_Wd) { frames := 2, cells := 0, slots := 0, locals := 49 } (x_k D cA ad) (x_F ad cA) [(.ref (ad (18, 0))), (.int a1), (.int a2), (.int a3), (.int a4), (.int a5)] ((stp, psz, gk, gl, gh, opn, cki, ckl, mp, rk, rv, ri, chk), (mo, mi, ml, mk, mlo, mhi, pk, ps, pl, ph, mm), out) ((fun q : Int32 × (Nat → Nat → Int32) × (Nat → Int32) => ((some (.int (q.1)), ((stp, psz, gk, gl, gh, opn, cki, ckl, mp, rk, rv, ri, chk), (q.2.1, q.2.2, ml, mk, mlo, mhi, pk, ps, pl, ph, mm), out)) : Option Value × x_S)) (s_Md_add mo mi a1 a2 a3 a4 a5)) 0 0 := by
  refine x_start (κ := x_k D cA ad) (cc := b_Md_add) (F := x_F ad cA) (wr := (fun q : Int32 × (Nat → Nat → Int32) × (Nat → Int32) => ((some (.int (q.1)), ((stp, psz, gk, gl, gh, opn, cki, ckl, mp, rk, rv, ri, chk), (q.2.1, q.2.2, ml, mk, mlo, mhi, pk, ps, pl, ph, mm), out)) : Option Value × x_S))) (q := s_Md_add mo mi a1 a2 a3 a4 a5) (ret := (Option.some Jvm.ClassFile.FieldType.int)) (lv0 := [(0, (.ref (ad (18, 0)))), (1, (.int a1)), (2, (.int a2)), (3, (.int a3)), (4, (.int a4)), (5, (.int a5))]) ok (by decide) rfl (Nat.le_of_ble_eq_true rfl) rfl ?_
  intro p e s m below meth c C hr hlk
  unfold s_Md_add
  unfold k_ok_Md_add at hk
  refine x_aload_n 0 C d_Md_add_0 rfl rfl ?_
  refine x_aload_n 0 C d_Md_add_1 rfl rfl ?_
  refine x_iload_n 1 C d_Md_add_2 rfl rfl ?_
  refine x_iload_n 2 C d_Md_add_3 rfl rfl ?_
  refine x_iload_n 3 C d_Md_add_4 rfl rfl ?_
  refine x_iload 5 C d_Md_add_5 rfl ?_
  refine x_cv (i := (18, 0)) (F := x_F ad cA) (As := [(.int a1), (.int a2), (.int a3), (.int a5)]) (rest := [(.ref (ad (18, 0)))]) C k_Md_fits q_878 (c_Md_fits ok a1 a2 a3 a5) rfl rfl rfl (Nat.le_of_ble_eq_true rfl) (Nat.le_of_ble_eq_true rfl) m_18 rfl rfl rfl rfl rfl (Nat.le_of_ble_eq_true rfl) d_Md_add_7 ⟨Nat.zero_le _, Nat.zero_le _⟩ ?_
  generalize hq1 : s_Md_fits a1 a2 a3 a5 = r1 at hk ⊢
  refine x_lets ?_
  have hk := x_lete hk
  refine x_cv (i := (18, 0)) (F := x_F ad cA) (As := [(.int r1)]) (rest := []) C k_Md_bad q_888 (c_Md_bad ok r1) rfl rfl rfl (Nat.le_of_ble_eq_true rfl) (Nat.le_of_ble_eq_true rfl) m_18 rfl rfl rfl rfl rfl (Nat.le_of_ble_eq_true rfl) d_Md_add_10 ⟨Nat.zero_le _, Nat.zero_le _⟩ ?_
  generalize hq2 : s_Md_bad mi r1 = q2 at hk ⊢
  obtain ⟨r2, mi2⟩ := q2
  refine x_lets ?_
  have hk := x_lete hk
  dsimp only at hk ⊢
  refine x_if_eq 18 C d_Md_add_13 (by decide) (fun z3 => ?_) (fun z3 => ?_)
  · have hk := x_okt hk z3
    refine x_aload_n 0 C d_Md_add_18 rfl rfl ?_
    refine x_get (i := (18, 0)) (v := (.int (mi2 0))) 5 C m_18 rfl rfl i_Md (by decide) (List.mem_cons_of_mem _ q_796) rfl d_Md_add_19 ?_
    refine x_bipush (v := 24) C d_Md_add_22 (by decide) ?_
    refine x_icmp_ne 34 C d_Md_add_24 (by decide) (fun z4 => ?_) (fun z4 => ?_)
    · have hk := x_okt hk z4
      refine x_aload_n 0 C d_Md_add_27 rfl rfl ?_
      refine x_iconst (v := 2) C d_Md_add_28 (by decide) ?_
      refine x_put (i := (18, 0)) (f' := x_F ad cA ((stp, psz, gk, gl, gh, opn, cki, ckl, mp, rk, rv, ri, chk), (mo, upd mi2 6 2, ml, mk, mlo, mhi, pk, ps, pl, ph, mm), out)) 11 C m_18 rfl rfl i_Md t_Md_ok n_Md (by decide) (List.mem_cons_of_mem _ q_802) rfl rfl rfl (Nat.le_of_ble_eq_true rfl) d_Md_add_29 e_mi6 ?_
      refine x_iconst (v := 0) C d_Md_add_32 (by decide) ?_
      exact x_iret C hr hlk rfl d_Md_add_33
    · have hk := x_okf hk z4
      refine x_aload_n 0 C d_Md_add_34 rfl rfl ?_
      refine x_aload_n 0 C d_Md_add_35 rfl rfl ?_
      refine x_get (i := (18, 0)) (v := (.int (mi2 0))) 5 C m_18 rfl rfl i_Md (by decide) (List.mem_cons_of_mem _ q_796) rfl d_Md_add_36 ?_
      refine x_iload_n 1 C d_Md_add_39 rfl rfl ?_
      refine x_iload_n 2 C d_Md_add_40 rfl rfl ?_
      refine x_iload_n 3 C d_Md_add_41 rfl rfl ?_
      refine x_iload 4 C d_Md_add_42 rfl ?_
      refine x_iload 5 C d_Md_add_44 rfl ?_
      have w5 := hk.1
      have hk := hk.2
      refine x_cv0 (i := (18, 0)) (F := x_F ad cA) (As := [(.int (mi2 0)), (.int a1), (.int a2), (.int a3), (.int a4), (.int a5)]) (rest := []) C k_Md_set q_892 (c_Md_set ok (mi2 0) a1 a2 a3 a4 a5 w5) rfl rfl rfl (Nat.le_of_ble_eq_true rfl) (Nat.le_of_ble_eq_true rfl) m_18 rfl rfl rfl rfl rfl (Nat.le_of_ble_eq_true rfl) d_Md_add_46 ⟨Nat.zero_le _, Nat.zero_le _⟩ ?_
      generalize hq6 : s_Md_set mo mi2 (mi2 0) a1 a2 a3 a4 a5 = q6
      obtain ⟨mo6, mi6⟩ := q6
      refine x_lets ?_
      dsimp only
      refine x_aload_n 0 C d_Md_add_49 rfl rfl ?_
      refine x_dup C d_Md_add_50 rfl ?_
      refine x_get (i := (18, 0)) (v := (.int (mi6 0))) 5 C m_18 rfl rfl i_Md (by decide) (List.mem_cons_of_mem _ q_796) rfl d_Md_add_51 ?_
      refine x_iconst (v := 1) C d_Md_add_54 (by decide) ?_
      refine x_iadd C d_Md_add_55 ?_
      refine x_put (i := (18, 0)) (f' := x_F ad cA ((stp, psz, gk, gl, gh, opn, cki, ckl, mp, rk, rv, ri, chk), (mo6, upd mi6 0 ((mi6 0) + 1), ml, mk, mlo, mhi, pk, ps, pl, ph, mm), out)) 5 C m_18 rfl rfl i_Md t_Md_ok n_Md (by decide) (List.mem_cons_of_mem _ q_796) rfl rfl rfl (Nat.le_of_ble_eq_true rfl) d_Md_add_56 e_mi0 ?_
      refine x_aload_n 0 C d_Md_add_59 rfl rfl ?_
      refine x_get (i := (18, 0)) (v := (.int ((upd mi6 0 ((mi6 0) + 1)) 0))) 5 C m_18 rfl rfl i_Md (by decide) (List.mem_cons_of_mem _ q_796) rfl d_Md_add_60 ?_
      refine x_iconst (v := 1) C d_Md_add_63 (by decide) ?_
      refine x_isub C d_Md_add_64 ?_
      exact x_iret C hr hlk rfl d_Md_add_65
  · have hk := x_okf hk z3
    refine x_iconst (v := 0) C d_Md_add_16 (by decide) ?_
    exact x_iret C hr hlk rfl d_Md_add_17
def s_Md_put (mo : Nat → Nat → Int32) (mi : Nat → Int32) (a1 : Int32) (a2 : Int32) (a3 : Int32) (a4 : Int32) (a5 : Int32) (a6 : Int32) : (Nat → Nat → Int32) × (Nat → Int32) :=
  (x_let (s_Md_fits a2 a3 a4 a6) fun r1 => (x_let (s_Md_bad mi r1) fun (r2, mi2) => (if r2 = 0 then (x_let (s_Md_in (Int32.toInt64 a1) 0 (Int32.toInt64 ((mi2 0) - 1))) fun r4 => (if r4 = 0 then (mo, upd mi2 6 2) else (x_let (s_Md_set mo mi2 a1 a2 a3 a4 a5 a6) fun (mo7, mi7) => (mo7, mi7)))) else (mo, mi2))))
def k_ok_Md_put (mo : Nat → Nat → Int32) (mi : Nat → Int32) (a1 : Int32) (a2 : Int32) (a3 : Int32) (a4 : Int32) (a5 : Int32) (a6 : Int32) : Prop :=
  (x_let (s_Md_fits a2 a3 a4 a6) fun r1 => (x_let (s_Md_bad mi r1) fun (r2, mi2) => (if r2 = 0 then (x_let (s_Md_in (Int32.toInt64 a1) 0 (Int32.toInt64 ((mi2 0) - 1))) fun r4 => (if r4 = 0 then True else (k_ok_Md_set mo mi2 a1 a2 a3 a4 a5 a6 ∧ True))) else True)))
set_option maxHeartbeats 4000000 in
set_option maxRecDepth 100000 in
theorem c_Md_put {l : Launch} {D : va_G} {cA : Nat → ClassId} {ad : x_I → Nat} (ok : x_ok (x_k D cA ad)) {stp : Nat → Nat → Int32} {psz : Int32} {gk : Nat → Nat → Int32} {gl : Nat → Nat → Int64} {gh : Nat → Nat → Int64} {opn : Nat → Int32} {cki : Nat → Int32} {ckl : Nat → Int64} {mp : Nat → Nat → Int64} {rk : Nat → Int32} {rv : Nat → Int64} {ri : Nat → Int32} {chk : Int32} {mo : Nat → Nat → Int32} {mi : Nat → Int32} {ml : Nat → Int64} {mk : Nat → Int32} {mlo : Nat → Int64} {mhi : Nat → Int64} {pk : Nat → Int32} {ps : Nat → Int32} {pl : Nat → Int64} {ph : Nat → Int64} {mm : Nat → Int64} {out : Nat → Int64} (a1 : Int32) (a2 : Int32) (a3 : Int32) (a4 : Int32) (a5 : Int32) (a6 : Int32) (hk : k_ok_Md_put mo mi a1 a2 a3 a4 a5 a6) : x_M l y_Md_put (Cond.code y_Md_put b_Md_put 7 (Option.none : Option Jvm.ClassFile.FieldType) :: x_Wd) { frames := 2, cells := 0, slots := 0, locals := 49 } (x_k D cA ad) (x_F ad cA) [(.ref (ad (18, 0))), (.int a1), (.int a2), (.int a3), (.int a4), (.int a5), (.int a6)] ((stp, psz, gk, gl, gh, opn, cki, ckl, mp, rk, rv, ri, chk), (mo, mi, ml, mk, mlo, mhi, pk, ps, pl, ph, mm), out) ((fun q : (Nat → Nat → Int32) × (Nat → Int32) => ((none, ((stp, psz, gk, gl, gh, opn, cki, ckl, mp, rk, rv, ri, chk), (q.1, q.2, ml, mk, mlo, mhi, pk, ps, pl, ph, mm), out)) : Option Value × x_S)) (s_Md_put mo mi a1 a2 a3 a4 a5 a6)) 0 0 := by
  refine x_start (κ := x_k D cA ad) (cc := b_Md_put) (F := x_F ad cA) (wr := (fun q : (Nat → Nat → Int32) × (Nat → Int32) => ((none, ((stp, psz, gk, gl, gh, opn, cki, ckl, mp, rk, rv, ri, chk), (q.1, q.2, ml, mk, mlo, mhi, pk, ps, pl, ph, mm), out)) : Option Value × x_S))) (q := s_Md_put mo mi a1 a2 a3 a4 a5 a6) (ret := (Option.none : Option Jvm.ClassFile.FieldType)) (lv0 := [(0, (.ref (ad (18, 0)))), (1, (.int a1)), (2, (.int a2)), (3, (.int a3)), (4, (.int a4)), (5, (.int a5)), (6, (.int a6))]) ok (by decide) rfl (Nat.le_of_ble_eq_true rfl) rfl ?_
  intro p e s m below meth c C hr hlk
  unfold s_Md_put
  unfold k_ok_Md_put at hk
  refine x_aload_n 0 C d_Md_put_0 rfl rfl ?_
  refine x_aload_n 0 C d_Md_put_1 rfl rfl ?_
  refine x_iload_n 2 C d_Md_put_2 rfl rfl ?_
  refine x_iload_n 3 C d_Md_put_3 rfl rfl ?_
  refine x_iload 4 C d_Md_put_4 rfl ?_
  refine x_iload 6 C d_Md_put_6 rfl ?_
  refine x_cv (i := (18, 0)) (F := x_F ad cA) (As := [(.int a2), (.int a3), (.int a4), (.int a6)]) (rest := [(.ref (ad (18, 0)))]) C k_Md_fits q_878 (c_Md_fits ok a2 a3 a4 a6) rfl rfl rfl (Nat.le_of_ble_eq_true rfl) (Nat.le_of_ble_eq_true rfl) m_18 rfl rfl rfl rfl rfl (Nat.le_of_ble_eq_true rfl) d_Md_put_8 ⟨Nat.zero_le _, Nat.zero_le _⟩ ?_
  generalize hq1 : s_Md_fits a2 a3 a4 a6 = r1 at hk ⊢
  refine x_lets ?_
  have hk := x_lete hk
  refine x_cv (i := (18, 0)) (F := x_F ad cA) (As := [(.int r1)]) (rest := []) C k_Md_bad q_888 (c_Md_bad ok r1) rfl rfl rfl (Nat.le_of_ble_eq_true rfl) (Nat.le_of_ble_eq_true rfl) m_18 rfl rfl rfl rfl rfl (Nat.le_of_ble_eq_true rfl) d_Md_put_11 ⟨Nat.zero_le _, Nat.zero_le _⟩ ?_
  generalize hq2 : s_Md_bad mi r1 = q2 at hk ⊢
  obtain ⟨r2, mi2⟩ := q2
  refine x_lets ?_
  have hk := x_lete hk
  dsimp only at hk ⊢
  refine x_if_eq 18 C d_Md_put_14 (by decide) (fun z3 => ?_) (fun z3 => ?_)
  · have hk := x_okt hk z3
    refine x_iload_n 1 C d_Md_put_18 rfl rfl ?_
    refine x_i2l C d_Md_put_19 ?_
    refine x_lconst (v := 0) C d_Md_put_20 (by decide) ?_
    refine x_aload_n 0 C d_Md_put_21 rfl rfl ?_
    refine x_get (i := (18, 0)) (v := (.int (mi2 0))) 5 C m_18 rfl rfl i_Md (by decide) (List.mem_cons_of_mem _ q_796) rfl d_Md_put_22 ?_
    refine x_iconst (v := 1) C d_Md_put_25 (by decide) ?_
    refine x_isub C d_Md_put_26 ?_
    refine x_i2l C d_Md_put_27 ?_
    refine x_cs (F := x_F ad cA) (As := [(.long (Int32.toInt64 a1)), (.long 0), (.long (Int32.toInt64 ((mi2 0) - 1)))]) (rest := []) C k_Md_in q_883 (c_Md_in ok (Int32.toInt64 a1) 0 (Int32.toInt64 ((mi2 0) - 1))) rfl rfl rfl (Nat.le_of_ble_eq_true rfl) (Nat.le_of_ble_eq_true rfl) rfl rfl (Nat.le_of_ble_eq_true rfl) d_Md_put_28 ⟨Nat.zero_le _, Nat.zero_le _⟩ ?_
    generalize hq4 : s_Md_in (Int32.toInt64 a1) 0 (Int32.toInt64 ((mi2 0) - 1)) = r4 at hk ⊢
    refine x_lets ?_
    have hk := x_lete hk
    refine x_if_ne 42 C d_Md_put_31 (by decide) (fun z5 => ?_) (fun z5 => ?_)
    · have hk := x_okt hk z5
      refine x_aload_n 0 C d_Md_put_34 rfl rfl ?_
      refine x_iconst (v := 2) C d_Md_put_35 (by decide) ?_
      refine x_put (i := (18, 0)) (f' := x_F ad cA ((stp, psz, gk, gl, gh, opn, cki, ckl, mp, rk, rv, ri, chk), (mo, upd mi2 6 2, ml, mk, mlo, mhi, pk, ps, pl, ph, mm), out)) 11 C m_18 rfl rfl i_Md t_Md_ok n_Md (by decide) (List.mem_cons_of_mem _ q_802) rfl rfl rfl (Nat.le_of_ble_eq_true rfl) d_Md_put_36 e_mi6 ?_
      refine x_goto 55 C d_Md_put_39 (by decide) ?_
      exact x_vret C hr hlk rfl d_Md_put_55
    · have hk := x_okf hk z5
      refine x_aload_n 0 C d_Md_put_42 rfl rfl ?_
      refine x_iload_n 1 C d_Md_put_43 rfl rfl ?_
      refine x_iload_n 2 C d_Md_put_44 rfl rfl ?_
      refine x_iload_n 3 C d_Md_put_45 rfl rfl ?_
      refine x_iload 4 C d_Md_put_46 rfl ?_
      refine x_iload 5 C d_Md_put_48 rfl ?_
      refine x_iload 6 C d_Md_put_50 rfl ?_
      have w6 := hk.1
      have hk := hk.2
      refine x_cv0 (i := (18, 0)) (F := x_F ad cA) (As := [(.int a1), (.int a2), (.int a3), (.int a4), (.int a5), (.int a6)]) (rest := []) C k_Md_set q_892 (c_Md_set ok a1 a2 a3 a4 a5 a6 w6) rfl rfl rfl (Nat.le_of_ble_eq_true rfl) (Nat.le_of_ble_eq_true rfl) m_18 rfl rfl rfl rfl rfl (Nat.le_of_ble_eq_true rfl) d_Md_put_52 ⟨Nat.zero_le _, Nat.zero_le _⟩ ?_
      generalize hq7 : s_Md_set mo mi2 a1 a2 a3 a4 a5 a6 = q7
      obtain ⟨mo7, mi7⟩ := q7
      refine x_lets ?_
      dsimp only
      exact x_vret C hr hlk rfl d_Md_put_55
  · have hk := x_okf hk z3
    exact x_vret C hr hlk rfl d_Md_put_17
def s_Md_cut (mi : Nat → Int32) (a1 : Int32) : (Nat → Int32) :=
  (x_let (s_Md_in (Int32.toInt64 a1) 0 (Int32.toInt64 (mi 0))) fun r1 => (x_let (s_Md_bad mi r1) fun (r2, mi2) => (if r2 = 0 then (upd (upd mi2 0 a1) 7 0) else (mi2))))
set_option maxHeartbeats 4000000 in
set_option maxRecDepth 100000 in
theorem c_Md_cut {l : Launch} {D : va_G} {cA : Nat → ClassId} {ad : x_I → Nat} (ok : x_ok (x_k D cA ad)) {stp : Nat → Nat → Int32} {psz : Int32} {gk : Nat → Nat → Int32} {gl : Nat → Nat → Int64} {gh : Nat → Nat → Int64} {opn : Nat → Int32} {cki : Nat → Int32} {ckl : Nat → Int64} {mp : Nat → Nat → Int64} {rk : Nat → Int32} {rv : Nat → Int64} {ri : Nat → Int32} {chk : Int32} {mo : Nat → Nat → Int32} {mi : Nat → Int32} {ml : Nat → Int64} {mk : Nat → Int32} {mlo : Nat → Int64} {mhi : Nat → Int64} {pk : Nat → Int32} {ps : Nat → Int32} {pl : Nat → Int64} {ph : Nat → Int64} {mm : Nat → Int64} {out : Nat → Int64} (a1 : Int32) : x_M l y_Md_cut (Cond.code y_Md_cut b_Md_cut 2 (Option.none : Option Jvm.ClassFile.FieldType) :: x_Wd) { frames := 1, cells := 0, slots := 0, locals := 25 } (x_k D cA ad) (x_F ad cA) [(.ref (ad (18, 0))), (.int a1)] ((stp, psz, gk, gl, gh, opn, cki, ckl, mp, rk, rv, ri, chk), (mo, mi, ml, mk, mlo, mhi, pk, ps, pl, ph, mm), out) ((fun q : (Nat → Int32) => ((none, ((stp, psz, gk, gl, gh, opn, cki, ckl, mp, rk, rv, ri, chk), (mo, q, ml, mk, mlo, mhi, pk, ps, pl, ph, mm), out)) : Option Value × x_S)) (s_Md_cut mi a1)) 0 0 := by
  refine x_start (κ := x_k D cA ad) (cc := b_Md_cut) (F := x_F ad cA) (wr := (fun q : (Nat → Int32) => ((none, ((stp, psz, gk, gl, gh, opn, cki, ckl, mp, rk, rv, ri, chk), (mo, q, ml, mk, mlo, mhi, pk, ps, pl, ph, mm), out)) : Option Value × x_S))) (q := s_Md_cut mi a1) (ret := (Option.none : Option Jvm.ClassFile.FieldType)) (lv0 := [(0, (.ref (ad (18, 0)))), (1, (.int a1))]) ok (by decide) rfl (Nat.le_of_ble_eq_true rfl) rfl ?_
  intro p e s m below meth c C hr hlk
  unfold s_Md_cut
  refine x_aload_n 0 C d_Md_cut_0 rfl rfl ?_
  refine x_iload_n 1 C d_Md_cut_1 rfl rfl ?_
  refine x_i2l C d_Md_cut_2 ?_
  refine x_lconst (v := 0) C d_Md_cut_3 (by decide) ?_
  refine x_aload_n 0 C d_Md_cut_4 rfl rfl ?_
  refine x_get (i := (18, 0)) (v := (.int (mi 0))) 5 C m_18 rfl rfl i_Md (by decide) (List.mem_cons_of_mem _ q_796) rfl d_Md_cut_5 ?_
  refine x_i2l C d_Md_cut_8 ?_
  refine x_cs (F := x_F ad cA) (As := [(.long (Int32.toInt64 a1)), (.long 0), (.long (Int32.toInt64 (mi 0)))]) (rest := [(.ref (ad (18, 0)))]) C k_Md_in q_883 (c_Md_in ok (Int32.toInt64 a1) 0 (Int32.toInt64 (mi 0))) rfl rfl rfl (Nat.le_of_ble_eq_true rfl) (Nat.le_of_ble_eq_true rfl) rfl rfl (Nat.le_of_ble_eq_true rfl) d_Md_cut_9 ⟨Nat.zero_le _, Nat.zero_le _⟩ ?_
  generalize hq1 : s_Md_in (Int32.toInt64 a1) 0 (Int32.toInt64 (mi 0)) = r1
  refine x_lets ?_
  refine x_cv (i := (18, 0)) (F := x_F ad cA) (As := [(.int r1)]) (rest := []) C k_Md_bad q_888 (c_Md_bad ok r1) rfl rfl rfl (Nat.le_of_ble_eq_true rfl) (Nat.le_of_ble_eq_true rfl) m_18 rfl rfl rfl rfl rfl (Nat.le_of_ble_eq_true rfl) d_Md_cut_12 ⟨Nat.zero_le _, Nat.zero_le _⟩ ?_
  generalize hq2 : s_Md_bad mi r1 = q2
  obtain ⟨r2, mi2⟩ := q2
  refine x_lets ?_
  dsimp only
  refine x_if_eq 19 C d_Md_cut_15 (by decide) (fun z3 => ?_) (fun z3 => ?_)
  · refine x_aload_n 0 C d_Md_cut_19 rfl rfl ?_
    refine x_iload_n 1 C d_Md_cut_20 rfl rfl ?_
    refine x_put (i := (18, 0)) (f' := x_F ad cA ((stp, psz, gk, gl, gh, opn, cki, ckl, mp, rk, rv, ri, chk), (mo, upd mi2 0 a1, ml, mk, mlo, mhi, pk, ps, pl, ph, mm), out)) 5 C m_18 rfl rfl i_Md t_Md_ok n_Md (by decide) (List.mem_cons_of_mem _ q_796) rfl rfl rfl (Nat.le_of_ble_eq_true rfl) d_Md_cut_21 e_mi0 ?_
    refine x_aload_n 0 C d_Md_cut_24 rfl rfl ?_
    refine x_iconst (v := 0) C d_Md_cut_25 (by decide) ?_
    refine x_put (i := (18, 0)) (f' := x_F ad cA ((stp, psz, gk, gl, gh, opn, cki, ckl, mp, rk, rv, ri, chk), (mo, upd (upd mi2 0 a1) 7 0, ml, mk, mlo, mhi, pk, ps, pl, ph, mm), out)) 12 C m_18 rfl rfl i_Md t_Md_ok n_Md (by decide) (List.mem_cons_of_mem _ q_803) rfl rfl rfl (Nat.le_of_ble_eq_true rfl) d_Md_cut_26 e_mi7 ?_
    exact x_vret C hr hlk rfl d_Md_cut_29
  · exact x_vret C hr hlk rfl d_Md_cut_18
def s_Md_know (mk : Nat → Int32) (mlo : Nat → Int64) (mhi : Nat → Int64) (a1 : Int32) (a2 : Int32) (a3 : Int64) (a4 : Int64) : (Nat → Int32) × (Nat → Int64) × (Nat → Int64) :=
  (upd mk a1.toNatClampNeg a2, vp_updL mlo a1.toNatClampNeg a3, vp_updL mhi a1.toNatClampNeg a4)
def k_ok_Md_know (mk : Nat → Int32) (mlo : Nat → Int64) (mhi : Nat → Int64) (a1 : Int32) (a2 : Int32) (a3 : Int64) (a4 : Int64) : Prop :=
  (vp_in a1 12 ∧ True)
set_option maxHeartbeats 4000000 in
set_option maxRecDepth 100000 in
theorem c_Md_know {l : Launch} {D : va_G} {cA : Nat → ClassId} {ad : x_I → Nat} (ok : x_ok (x_k D cA ad)) {stp : Nat → Nat → Int32} {psz : Int32} {gk : Nat → Nat → Int32} {gl : Nat → Nat → Int64} {gh : Nat → Nat → Int64} {opn : Nat → Int32} {cki : Nat → Int32} {ckl : Nat → Int64} {mp : Nat → Nat → Int64} {rk : Nat → Int32} {rv : Nat → Int64} {ri : Nat → Int32} {chk : Int32} {mo : Nat → Nat → Int32} {mi : Nat → Int32} {ml : Nat → Int64} {mk : Nat → Int32} {mlo : Nat → Int64} {mhi : Nat → Int64} {pk : Nat → Int32} {ps : Nat → Int32} {pl : Nat → Int64} {ph : Nat → Int64} {mm : Nat → Int64} {out : Nat → Int64} (a1 : Int32) (a2 : Int32) (a3 : Int64) (a4 : Int64) (hk : k_ok_Md_know mk mlo mhi a1 a2 a3 a4) : x_M l y_Md_know (Cond.code y_Md_know b_Md_know 7 (Option.none : Option Jvm.ClassFile.FieldType) :: x_Wd) { frames := 0, cells := 0, slots := 0, locals := 0 } (x_k D cA ad) (x_F ad cA) [(.ref (ad (18, 0))), (.int a1), (.int a2), (.long a3), (.long a4)] ((stp, psz, gk, gl, gh, opn, cki, ckl, mp, rk, rv, ri, chk), (mo, mi, ml, mk, mlo, mhi, pk, ps, pl, ph, mm), out) ((fun q : (Nat → Int32) × (Nat → Int64) × (Nat → Int64) => ((none, ((stp, psz, gk, gl, gh, opn, cki, ckl, mp, rk, rv, ri, chk), (mo, mi, ml, q.1, q.2.1, q.2.2, pk, ps, pl, ph, mm), out)) : Option Value × x_S)) (s_Md_know mk mlo mhi a1 a2 a3 a4)) 0 0 := by
  refine x_start (κ := x_k D cA ad) (cc := b_Md_know) (F := x_F ad cA) (wr := (fun q : (Nat → Int32) × (Nat → Int64) × (Nat → Int64) => ((none, ((stp, psz, gk, gl, gh, opn, cki, ckl, mp, rk, rv, ri, chk), (mo, mi, ml, q.1, q.2.1, q.2.2, pk, ps, pl, ph, mm), out)) : Option Value × x_S))) (q := s_Md_know mk mlo mhi a1 a2 a3 a4) (ret := (Option.none : Option Jvm.ClassFile.FieldType)) (lv0 := [(0, (.ref (ad (18, 0)))), (1, (.int a1)), (2, (.int a2)), (3, (.long a3)), (5, (.long a4))]) ok (by decide) rfl (Nat.le_of_ble_eq_true rfl) rfl ?_
  intro p e s m below meth c C hr hlk
  unfold s_Md_know
  unfold k_ok_Md_know at hk
  refine x_aload_n 0 C d_Md_know_0 rfl rfl ?_
  refine x_get (i := (18, 0)) (v := (.ref (ad (24, 0)))) 16 C m_18 rfl rfl i_Md (by decide) (List.mem_cons_of_mem _ q_807) rfl d_Md_know_1 ?_
  refine x_iload_n 1 C d_Md_know_4 rfl rfl ?_
  refine x_iload_n 2 C d_Md_know_5 rfl rfl ?_
  have w1 := hk.1
  have hk := hk.2
  refine x_iast (i := (24, 0)) (g := mk) (f' := x_F ad cA ((stp, psz, gk, gl, gh, opn, cki, ckl, mp, rk, rv, ri, chk), (mo, mi, ml, upd mk a1.toNatClampNeg a2, mlo, mhi, pk, ps, pl, ph, mm), out)) 0 C m_24 rfl rfl w1 d_Md_know_6 e_mk ?_
  refine x_aload_n 0 C d_Md_know_7 rfl rfl ?_
  refine x_get (i := (18, 0)) (v := (.ref (ad (25, 0)))) 17 C m_18 rfl rfl i_Md (by decide) (List.mem_cons_of_mem _ q_808) rfl d_Md_know_8 ?_
  refine x_iload_n 1 C d_Md_know_11 rfl rfl ?_
  refine x_lload_n 3 C d_Md_know_12 rfl rfl ?_
  refine x_last (i := (25, 0)) (g := mlo) (f' := x_F ad cA ((stp, psz, gk, gl, gh, opn, cki, ckl, mp, rk, rv, ri, chk), (mo, mi, ml, upd mk a1.toNatClampNeg a2, vp_updL mlo a1.toNatClampNeg a3, mhi, pk, ps, pl, ph, mm), out)) 1 C m_25 rfl rfl w1 d_Md_know_13 e_mlo ?_
  refine x_aload_n 0 C d_Md_know_14 rfl rfl ?_
  refine x_get (i := (18, 0)) (v := (.ref (ad (26, 0)))) 18 C m_18 rfl rfl i_Md (by decide) (List.mem_cons_of_mem _ q_809) rfl d_Md_know_15 ?_
  refine x_iload_n 1 C d_Md_know_18 rfl rfl ?_
  refine x_lload 4 C d_Md_know_19 rfl ?_
  refine x_last (i := (26, 0)) (g := mhi) (f' := x_F ad cA ((stp, psz, gk, gl, gh, opn, cki, ckl, mp, rk, rv, ri, chk), (mo, mi, ml, upd mk a1.toNatClampNeg a2, vp_updL mlo a1.toNatClampNeg a3, vp_updL mhi a1.toNatClampNeg a4, pk, ps, pl, ph, mm), out)) 1 C m_26 rfl rfl w1 d_Md_know_21 e_mhi ?_
  exact x_vret C hr hlk rfl d_Md_know_22
def s_Md_copy (mk : Nat → Int32) (mlo : Nat → Int64) (mhi : Nat → Int64) (a1 : Int32) (a2 : Int32) : (Nat → Int32) × (Nat → Int64) × (Nat → Int64) :=
  (x_let (s_Md_know mk mlo mhi a2 (mk a1.toNatClampNeg) (mlo a1.toNatClampNeg) (mhi a1.toNatClampNeg)) fun (mk3, mlo3, mhi3) => (mk3, mlo3, mhi3))
def k_ok_Md_copy (mk : Nat → Int32) (mlo : Nat → Int64) (mhi : Nat → Int64) (a1 : Int32) (a2 : Int32) : Prop :=
  (vp_in a1 12 ∧ (k_ok_Md_know mk mlo mhi a2 (mk a1.toNatClampNeg) (mlo a1.toNatClampNeg) (mhi a1.toNatClampNeg) ∧ True))
set_option maxHeartbeats 4000000 in
set_option maxRecDepth 100000 in
theorem c_Md_copy {l : Launch} {D : va_G} {cA : Nat → ClassId} {ad : x_I → Nat} (ok : x_ok (x_k D cA ad)) {stp : Nat → Nat → Int32} {psz : Int32} {gk : Nat → Nat → Int32} {gl : Nat → Nat → Int64} {gh : Nat → Nat → Int64} {opn : Nat → Int32} {cki : Nat → Int32} {ckl : Nat → Int64} {mp : Nat → Nat → Int64} {rk : Nat → Int32} {rv : Nat → Int64} {ri : Nat → Int32} {chk : Int32} {mo : Nat → Nat → Int32} {mi : Nat → Int32} {ml : Nat → Int64} {mk : Nat → Int32} {mlo : Nat → Int64} {mhi : Nat → Int64} {pk : Nat → Int32} {ps : Nat → Int32} {pl : Nat → Int64} {ph : Nat → Int64} {mm : Nat → Int64} {out : Nat → Int64} (a1 : Int32) (a2 : Int32) (hk : k_ok_Md_copy mk mlo mhi a1 a2) : x_M l y_Md_copy (Cond.code y_Md_copy b_Md_copy 3 (Option.none : Option Jvm.ClassFile.FieldType) :: x_Wd) { frames := 1, cells := 0, slots := 0, locals := 26 } (x_k D cA ad) (x_F ad cA) [(.ref (ad (18, 0))), (.int a1), (.int a2)] ((stp, psz, gk, gl, gh, opn, cki, ckl, mp, rk, rv, ri, chk), (mo, mi, ml, mk, mlo, mhi, pk, ps, pl, ph, mm), out) ((fun q : (Nat → Int32) × (Nat → Int64) × (Nat → Int64) => ((none, ((stp, psz, gk, gl, gh, opn, cki, ckl, mp, rk, rv, ri, chk), (mo, mi, ml, q.1, q.2.1, q.2.2, pk, ps, pl, ph, mm), out)) : Option Value × x_S)) (s_Md_copy mk mlo mhi a1 a2)) 0 0 := by
  refine x_start (κ := x_k D cA ad) (cc := b_Md_copy) (F := x_F ad cA) (wr := (fun q : (Nat → Int32) × (Nat → Int64) × (Nat → Int64) => ((none, ((stp, psz, gk, gl, gh, opn, cki, ckl, mp, rk, rv, ri, chk), (mo, mi, ml, q.1, q.2.1, q.2.2, pk, ps, pl, ph, mm), out)) : Option Value × x_S))) (q := s_Md_copy mk mlo mhi a1 a2) (ret := (Option.none : Option Jvm.ClassFile.FieldType)) (lv0 := [(0, (.ref (ad (18, 0)))), (1, (.int a1)), (2, (.int a2))]) ok (by decide) rfl (Nat.le_of_ble_eq_true rfl) rfl ?_
  intro p e s m below meth c C hr hlk
  unfold s_Md_copy
  unfold k_ok_Md_copy at hk
  refine x_aload_n 0 C d_Md_copy_0 rfl rfl ?_
  refine x_iload_n 2 C d_Md_copy_1 rfl rfl ?_
  refine x_aload_n 0 C d_Md_copy_2 rfl rfl ?_
  refine x_get (i := (18, 0)) (v := (.ref (ad (24, 0)))) 16 C m_18 rfl rfl i_Md (by decide) (List.mem_cons_of_mem _ q_807) rfl d_Md_copy_3 ?_
  refine x_iload_n 1 C d_Md_copy_6 rfl rfl ?_
  have w1 := hk.1
  have hk := hk.2
  refine x_iald (i := (24, 0)) (g := mk) 0 C m_24 rfl rfl w1 d_Md_copy_7 ?_
  refine x_aload_n 0 C d_Md_copy_8 rfl rfl ?_
  refine x_get (i := (18, 0)) (v := (.ref (ad (25, 0)))) 17 C m_18 rfl rfl i_Md (by decide) (List.mem_cons_of_mem _ q_808) rfl d_Md_copy_9 ?_
  refine x_iload_n 1 C d_Md_copy_12 rfl rfl ?_
  refine x_lald (i := (25, 0)) (g := mlo) 1 C m_25 rfl rfl w1 d_Md_copy_13 ?_
  refine x_aload_n 0 C d_Md_copy_14 rfl rfl ?_
  refine x_get (i := (18, 0)) (v := (.ref (ad (26, 0)))) 18 C m_18 rfl rfl i_Md (by decide) (List.mem_cons_of_mem _ q_809) rfl d_Md_copy_15 ?_
  refine x_iload_n 1 C d_Md_copy_18 rfl rfl ?_
  refine x_lald (i := (26, 0)) (g := mhi) 1 C m_26 rfl rfl w1 d_Md_copy_19 ?_
  have w2 := hk.1
  have hk := hk.2
  refine x_cv0 (i := (18, 0)) (F := x_F ad cA) (As := [(.int a2), (.int (mk a1.toNatClampNeg)), (.long (mlo a1.toNatClampNeg)), (.long (mhi a1.toNatClampNeg))]) (rest := []) C k_Md_know q_908 (c_Md_know ok a2 (mk a1.toNatClampNeg) (mlo a1.toNatClampNeg) (mhi a1.toNatClampNeg) w2) rfl rfl rfl (Nat.le_of_ble_eq_true rfl) (Nat.le_of_ble_eq_true rfl) m_18 rfl rfl rfl rfl rfl (Nat.le_of_ble_eq_true rfl) d_Md_copy_20 ⟨Nat.zero_le _, Nat.zero_le _⟩ ?_
  generalize hq3 : s_Md_know mk mlo mhi a2 (mk a1.toNatClampNeg) (mlo a1.toNatClampNeg) (mhi a1.toNatClampNeg) = q3
  obtain ⟨mk3, mlo3, mhi3⟩ := q3
  refine x_lets ?_
  dsimp only
  exact x_vret C hr hlk rfl d_Md_copy_23
def s_Md_anything (mk : Nat → Int32) (mlo : Nat → Int64) (mhi : Nat → Int64) (a1 : Int32) : (Nat → Int32) × (Nat → Int64) × (Nat → Int64) :=
  (x_let (s_Md_know mk mlo mhi a1 1 (-9223372036854775808) 9223372036854775807) fun (mk2, mlo2, mhi2) => (mk2, mlo2, mhi2))
def k_ok_Md_anything (mk : Nat → Int32) (mlo : Nat → Int64) (mhi : Nat → Int64) (a1 : Int32) : Prop :=
  (k_ok_Md_know mk mlo mhi a1 1 (-9223372036854775808) 9223372036854775807 ∧ True)
set_option maxHeartbeats 4000000 in
set_option maxRecDepth 100000 in
theorem c_Md_anything {l : Launch} {D : va_G} {cA : Nat → ClassId} {ad : x_I → Nat} (ok : x_ok (x_k D cA ad)) {stp : Nat → Nat → Int32} {psz : Int32} {gk : Nat → Nat → Int32} {gl : Nat → Nat → Int64} {gh : Nat → Nat → Int64} {opn : Nat → Int32} {cki : Nat → Int32} {ckl : Nat → Int64} {mp : Nat → Nat → Int64} {rk : Nat → Int32} {rv : Nat → Int64} {ri : Nat → Int32} {chk : Int32} {mo : Nat → Nat → Int32} {mi : Nat → Int32} {ml : Nat → Int64} {mk : Nat → Int32} {mlo : Nat → Int64} {mhi : Nat → Int64} {pk : Nat → Int32} {ps : Nat → Int32} {pl : Nat → Int64} {ph : Nat → Int64} {mm : Nat → Int64} {out : Nat → Int64} (a1 : Int32) (hk : k_ok_Md_anything mk mlo mhi a1) : x_M l y_Md_anything (Cond.code y_Md_anything b_Md_anything 2 (Option.none : Option Jvm.ClassFile.FieldType) :: x_Wd) { frames := 1, cells := 0, slots := 0, locals := 26 } (x_k D cA ad) (x_F ad cA) [(.ref (ad (18, 0))), (.int a1)] ((stp, psz, gk, gl, gh, opn, cki, ckl, mp, rk, rv, ri, chk), (mo, mi, ml, mk, mlo, mhi, pk, ps, pl, ph, mm), out) ((fun q : (Nat → Int32) × (Nat → Int64) × (Nat → Int64) => ((none, ((stp, psz, gk, gl, gh, opn, cki, ckl, mp, rk, rv, ri, chk), (mo, mi, ml, q.1, q.2.1, q.2.2, pk, ps, pl, ph, mm), out)) : Option Value × x_S)) (s_Md_anything mk mlo mhi a1)) 0 0 := by
  refine x_start (κ := x_k D cA ad) (cc := b_Md_anything) (F := x_F ad cA) (wr := (fun q : (Nat → Int32) × (Nat → Int64) × (Nat → Int64) => ((none, ((stp, psz, gk, gl, gh, opn, cki, ckl, mp, rk, rv, ri, chk), (mo, mi, ml, q.1, q.2.1, q.2.2, pk, ps, pl, ph, mm), out)) : Option Value × x_S))) (q := s_Md_anything mk mlo mhi a1) (ret := (Option.none : Option Jvm.ClassFile.FieldType)) (lv0 := [(0, (.ref (ad (18, 0)))), (1, (.int a1))]) ok (by decide) rfl (Nat.le_of_ble_eq_true rfl) rfl ?_
  intro p e s m below meth c C hr hlk
  unfold s_Md_anything
  unfold k_ok_Md_anything at hk
  refine x_aload_n 0 C d_Md_anything_0 rfl rfl ?_
  refine x_iload_n 1 C d_Md_anything_1 rfl rfl ?_
  refine x_iconst (v := 1) C d_Md_anything_2 (by decide) ?_
  refine x_ldc2 (v := (-9223372036854775808)) C (List.mem_cons_of_mem _ q_916) d_Md_anything_3 ?_
  refine x_ldc2 (v := 9223372036854775807) C (List.mem_cons_of_mem _ q_917) d_Md_anything_6 ?_
  have w1 := hk.1
  have hk := hk.2
  refine x_cv0 (i := (18, 0)) (F := x_F ad cA) (As := [(.int a1), (.int 1), (.long (-9223372036854775808)), (.long 9223372036854775807)]) (rest := []) C k_Md_know q_908 (c_Md_know ok a1 1 (-9223372036854775808) 9223372036854775807 w1) rfl rfl rfl (Nat.le_of_ble_eq_true rfl) (Nat.le_of_ble_eq_true rfl) m_18 rfl rfl rfl rfl rfl (Nat.le_of_ble_eq_true rfl) d_Md_anything_9 ⟨Nat.zero_le _, Nat.zero_le _⟩ ?_
  generalize hq2 : s_Md_know mk mlo mhi a1 1 (-9223372036854775808) 9223372036854775807 = q2
  obtain ⟨mk2, mlo2, mhi2⟩ := q2
  refine x_lets ?_
  dsimp only
  exact x_vret C hr hlk rfl d_Md_anything_12
def s_Md_overflows (a1 : Int64) (a2 : Int64) : Int32 :=
  (if 0 ≤ ((a1 ^^^ (a1 + a2)) &&& (a2 ^^^ (a1 + a2))) then (0) else (1))
set_option maxHeartbeats 4000000 in
set_option maxRecDepth 100000 in
theorem c_Md_overflows {l : Launch} {D : va_G} {cA : Nat → ClassId} {ad : x_I → Nat} (ok : x_ok (x_k D cA ad)) {stp : Nat → Nat → Int32} {psz : Int32} {gk : Nat → Nat → Int32} {gl : Nat → Nat → Int64} {gh : Nat → Nat → Int64} {opn : Nat → Int32} {cki : Nat → Int32} {ckl : Nat → Int64} {mp : Nat → Nat → Int64} {rk : Nat → Int32} {rv : Nat → Int64} {ri : Nat → Int32} {chk : Int32} {mo : Nat → Nat → Int32} {mi : Nat → Int32} {ml : Nat → Int64} {mk : Nat → Int32} {mlo : Nat → Int64} {mhi : Nat → Int64} {pk : Nat → Int32} {ps : Nat → Int32} {pl : Nat → Int64} {ph : Nat → Int64} {mm : Nat → Int64} {out : Nat → Int64} (a1 : Int64) (a2 : Int64) : x_M l y_Md_overflows (Cond.code y_Md_overflows b_Md_overflows 6 (Option.some Jvm.ClassFile.FieldType.boolean) :: x_Wd) { frames := 0, cells := 0, slots := 0, locals := 0 } (x_k D cA ad) (x_F ad cA) [(.long a1), (.long a2)] ((stp, psz, gk, gl, gh, opn, cki, ckl, mp, rk, rv, ri, chk), (mo, mi, ml, mk, mlo, mhi, pk, ps, pl, ph, mm), out) ((fun q : Int32 => ((some (.int (q)), ((stp, psz, gk, gl, gh, opn, cki, ckl, mp, rk, rv, ri, chk), (mo, mi, ml, mk, mlo, mhi, pk, ps, pl, ph, mm), out)) : Option Value × x_S)) (s_Md_overflows a1 a2)) 0 0 := by
  refine x_start (κ := x_k D cA ad) (cc := b_Md_overflows) (F := x_F ad cA) (wr := (fun q : Int32 => ((some (.int (q)), ((stp, psz, gk, gl, gh, opn, cki, ckl, mp, rk, rv, ri, chk), (mo, mi, ml, mk, mlo, mhi, pk, ps, pl, ph, mm), out)) : Option Value × x_S))) (q := s_Md_overflows a1 a2) (ret := (Option.some Jvm.ClassFile.FieldType.boolean)) (lv0 := [(0, (.long a1)), (2, (.long a2))]) ok (by decide) rfl (Nat.le_of_ble_eq_true rfl) rfl ?_
  intro p e s m below meth c C hr hlk
  unfold s_Md_overflows
  refine x_lload_n 0 C d_Md_overflows_0 rfl rfl ?_
  refine x_lload_n 1 C d_Md_overflows_1 rfl rfl ?_
  refine x_ladd C d_Md_overflows_2 ?_
  refine x_lstore (lv' := [(4, (.long (a1 + a2))), (0, (.long a1)), (2, (.long a2))]) C d_Md_overflows_3 (by decide) rfl ?_
  refine x_lload_n 1 C d_Md_overflows_5 rfl rfl ?_
  refine x_lload 0 C d_Md_overflows_6 rfl ?_
  refine x_lxor C d_Md_overflows_8 ?_
  refine x_lload_n 2 C d_Md_overflows_9 rfl rfl ?_
  refine x_lload 0 C d_Md_overflows_10 rfl ?_
  refine x_lxor C d_Md_overflows_12 ?_
  refine x_land C d_Md_overflows_13 ?_
  refine x_lconst (v := 0) C d_Md_overflows_14 (by decide) ?_
  refine x_lcmp_ge 23 C d_Md_overflows_15 d_Md_overflows_16 (by decide) (fun z1 => ?_) (fun z1 => ?_)
  · refine x_iconst (v := 0) C d_Md_overflows_23 (by decide) ?_
    exact x_zret C hr hlk rfl rfl d_Md_overflows_24
  · refine x_iconst (v := 1) C d_Md_overflows_19 (by decide) ?_
    refine x_goto 24 C d_Md_overflows_20 (by decide) ?_
    exact x_zret C hr hlk rfl rfl d_Md_overflows_24
def s_Md_usesD (a1 : Int32) : Int32 :=
  (if a1 ≤ 1 then (if a1 = 15 then (1) else (0)) else (if a1 < 13 then (1) else (if a1 = 15 then (1) else (0))))
set_option maxHeartbeats 4000000 in
set_option maxRecDepth 100000 in
theorem c_Md_usesD {l : Launch} {D : va_G} {cA : Nat → ClassId} {ad : x_I → Nat} (ok : x_ok (x_k D cA ad)) {stp : Nat → Nat → Int32} {psz : Int32} {gk : Nat → Nat → Int32} {gl : Nat → Nat → Int64} {gh : Nat → Nat → Int64} {opn : Nat → Int32} {cki : Nat → Int32} {ckl : Nat → Int64} {mp : Nat → Nat → Int64} {rk : Nat → Int32} {rv : Nat → Int64} {ri : Nat → Int32} {chk : Int32} {mo : Nat → Nat → Int32} {mi : Nat → Int32} {ml : Nat → Int64} {mk : Nat → Int32} {mlo : Nat → Int64} {mhi : Nat → Int64} {pk : Nat → Int32} {ps : Nat → Int32} {pl : Nat → Int64} {ph : Nat → Int64} {mm : Nat → Int64} {out : Nat → Int64} (a1 : Int32) : x_M l y_Md_usesD (Cond.code y_Md_usesD b_Md_usesD 2 (Option.some Jvm.ClassFile.FieldType.boolean) :: x_Wd) { frames := 0, cells := 0, slots := 0, locals := 0 } (x_k D cA ad) (x_F ad cA) [(.ref (ad (18, 0))), (.int a1)] ((stp, psz, gk, gl, gh, opn, cki, ckl, mp, rk, rv, ri, chk), (mo, mi, ml, mk, mlo, mhi, pk, ps, pl, ph, mm), out) ((fun q : Int32 => ((some (.int (q)), ((stp, psz, gk, gl, gh, opn, cki, ckl, mp, rk, rv, ri, chk), (mo, mi, ml, mk, mlo, mhi, pk, ps, pl, ph, mm), out)) : Option Value × x_S)) (s_Md_usesD a1)) 0 0 := by
  refine x_start (κ := x_k D cA ad) (cc := b_Md_usesD) (F := x_F ad cA) (wr := (fun q : Int32 => ((some (.int (q)), ((stp, psz, gk, gl, gh, opn, cki, ckl, mp, rk, rv, ri, chk), (mo, mi, ml, mk, mlo, mhi, pk, ps, pl, ph, mm), out)) : Option Value × x_S))) (q := s_Md_usesD a1) (ret := (Option.some Jvm.ClassFile.FieldType.boolean)) (lv0 := [(0, (.ref (ad (18, 0)))), (1, (.int a1))]) ok (by decide) rfl (Nat.le_of_ble_eq_true rfl) rfl ?_
  intro p e s m below meth c C hr hlk
  unfold s_Md_usesD
  refine x_iload_n 1 C d_Md_usesD_0 rfl rfl ?_
  refine x_iconst (v := 1) C d_Md_usesD_1 (by decide) ?_
  refine x_icmp_le 11 C d_Md_usesD_2 (by decide) (fun z1 => ?_) (fun z1 => ?_)
  · refine x_iload_n 1 C d_Md_usesD_11 rfl rfl ?_
    refine x_bipush (v := 15) C d_Md_usesD_12 (by decide) ?_
    refine x_icmp_ne 21 C d_Md_usesD_14 (by decide) (fun z2 => ?_) (fun z2 => ?_)
    · refine x_iconst (v := 1) C d_Md_usesD_17 (by decide) ?_
      refine x_goto 22 C d_Md_usesD_18 (by decide) ?_
      exact x_zret C hr hlk rfl rfl d_Md_usesD_22
    · refine x_iconst (v := 0) C d_Md_usesD_21 (by decide) ?_
      exact x_zret C hr hlk rfl rfl d_Md_usesD_22
  · refine x_iload_n 1 C d_Md_usesD_5 rfl rfl ?_
    refine x_bipush (v := 13) C d_Md_usesD_6 (by decide) ?_
    refine x_icmp_lt 17 C d_Md_usesD_8 (by decide) (fun z3 => ?_) (fun z3 => ?_)
    · refine x_iconst (v := 1) C d_Md_usesD_17 (by decide) ?_
      refine x_goto 22 C d_Md_usesD_18 (by decide) ?_
      exact x_zret C hr hlk rfl rfl d_Md_usesD_22
    · refine x_iload_n 1 C d_Md_usesD_11 rfl rfl ?_
      refine x_bipush (v := 15) C d_Md_usesD_12 (by decide) ?_
      refine x_icmp_ne 21 C d_Md_usesD_14 (by decide) (fun z4 => ?_) (fun z4 => ?_)
      · refine x_iconst (v := 1) C d_Md_usesD_17 (by decide) ?_
        refine x_goto 22 C d_Md_usesD_18 (by decide) ?_
        exact x_zret C hr hlk rfl rfl d_Md_usesD_22
      · refine x_iconst (v := 0) C d_Md_usesD_21 (by decide) ?_
        exact x_zret C hr hlk rfl rfl d_Md_usesD_22
def s_Md_usesS (a1 : Int32) : Int32 :=
  (if a1 = 1 then (1) else (if a1 = 3 then (1) else (if a1 = 4 then (1) else (if a1 = 12 then (1) else (if a1 = 14 then (1) else (if a1 = 15 then (1) else (0)))))))
set_option maxHeartbeats 4000000 in
set_option maxRecDepth 100000 in
theorem c_Md_usesS {l : Launch} {D : va_G} {cA : Nat → ClassId} {ad : x_I → Nat} (ok : x_ok (x_k D cA ad)) {stp : Nat → Nat → Int32} {psz : Int32} {gk : Nat → Nat → Int32} {gl : Nat → Nat → Int64} {gh : Nat → Nat → Int64} {opn : Nat → Int32} {cki : Nat → Int32} {ckl : Nat → Int64} {mp : Nat → Nat → Int64} {rk : Nat → Int32} {rv : Nat → Int64} {ri : Nat → Int32} {chk : Int32} {mo : Nat → Nat → Int32} {mi : Nat → Int32} {ml : Nat → Int64} {mk : Nat → Int32} {mlo : Nat → Int64} {mhi : Nat → Int64} {pk : Nat → Int32} {ps : Nat → Int32} {pl : Nat → Int64} {ph : Nat → Int64} {mm : Nat → Int64} {out : Nat → Int64} (a1 : Int32) : x_M l y_Md_usesS (Cond.code y_Md_usesS b_Md_usesS 2 (Option.some Jvm.ClassFile.FieldType.boolean) :: x_Wd) { frames := 0, cells := 0, slots := 0, locals := 0 } (x_k D cA ad) (x_F ad cA) [(.ref (ad (18, 0))), (.int a1)] ((stp, psz, gk, gl, gh, opn, cki, ckl, mp, rk, rv, ri, chk), (mo, mi, ml, mk, mlo, mhi, pk, ps, pl, ph, mm), out) ((fun q : Int32 => ((some (.int (q)), ((stp, psz, gk, gl, gh, opn, cki, ckl, mp, rk, rv, ri, chk), (mo, mi, ml, mk, mlo, mhi, pk, ps, pl, ph, mm), out)) : Option Value × x_S)) (s_Md_usesS a1)) 0 0 := by
  refine x_start (κ := x_k D cA ad) (cc := b_Md_usesS) (F := x_F ad cA) (wr := (fun q : Int32 => ((some (.int (q)), ((stp, psz, gk, gl, gh, opn, cki, ckl, mp, rk, rv, ri, chk), (mo, mi, ml, mk, mlo, mhi, pk, ps, pl, ph, mm), out)) : Option Value × x_S))) (q := s_Md_usesS a1) (ret := (Option.some Jvm.ClassFile.FieldType.boolean)) (lv0 := [(0, (.ref (ad (18, 0)))), (1, (.int a1))]) ok (by decide) rfl (Nat.le_of_ble_eq_true rfl) rfl ?_
  intro p e s m below meth c C hr hlk
  unfold s_Md_usesS
  refine x_iload_n 1 C d_Md_usesS_0 rfl rfl ?_
  refine x_iconst (v := 1) C d_Md_usesS_1 (by decide) ?_
  refine x_icmp_eq 33 C d_Md_usesS_2 (by decide) (fun z1 => ?_) (fun z1 => ?_)
  · refine x_iconst (v := 1) C d_Md_usesS_33 (by decide) ?_
    refine x_goto 38 C d_Md_usesS_34 (by decide) ?_
    exact x_zret C hr hlk rfl rfl d_Md_usesS_38
  · refine x_iload_n 1 C d_Md_usesS_5 rfl rfl ?_
    refine x_iconst (v := 3) C d_Md_usesS_6 (by decide) ?_
    refine x_icmp_eq 33 C d_Md_usesS_7 (by decide) (fun z2 => ?_) (fun z2 => ?_)
    · refine x_iconst (v := 1) C d_Md_usesS_33 (by decide) ?_
      refine x_goto 38 C d_Md_usesS_34 (by decide) ?_
      exact x_zret C hr hlk rfl rfl d_Md_usesS_38
    · refine x_iload_n 1 C d_Md_usesS_10 rfl rfl ?_
      refine x_iconst (v := 4) C d_Md_usesS_11 (by decide) ?_
      refine x_icmp_eq 33 C d_Md_usesS_12 (by decide) (fun z3 => ?_) (fun z3 => ?_)
      · refine x_iconst (v := 1) C d_Md_usesS_33 (by decide) ?_
        refine x_goto 38 C d_Md_usesS_34 (by decide) ?_
        exact x_zret C hr hlk rfl rfl d_Md_usesS_38
      · refine x_iload_n 1 C d_Md_usesS_15 rfl rfl ?_
        refine x_bipush (v := 12) C d_Md_usesS_16 (by decide) ?_
        refine x_icmp_eq 33 C d_Md_usesS_18 (by decide) (fun z4 => ?_) (fun z4 => ?_)
        · refine x_iconst (v := 1) C d_Md_usesS_33 (by decide) ?_
          refine x_goto 38 C d_Md_usesS_34 (by decide) ?_
          exact x_zret C hr hlk rfl rfl d_Md_usesS_38
        · refine x_iload_n 1 C d_Md_usesS_21 rfl rfl ?_
          refine x_bipush (v := 14) C d_Md_usesS_22 (by decide) ?_
          refine x_icmp_eq 33 C d_Md_usesS_24 (by decide) (fun z5 => ?_) (fun z5 => ?_)
          · refine x_iconst (v := 1) C d_Md_usesS_33 (by decide) ?_
            refine x_goto 38 C d_Md_usesS_34 (by decide) ?_
            exact x_zret C hr hlk rfl rfl d_Md_usesS_38
          · refine x_iload_n 1 C d_Md_usesS_27 rfl rfl ?_
            refine x_bipush (v := 15) C d_Md_usesS_28 (by decide) ?_
            refine x_icmp_ne 37 C d_Md_usesS_30 (by decide) (fun z6 => ?_) (fun z6 => ?_)
            · refine x_iconst (v := 1) C d_Md_usesS_33 (by decide) ?_
              refine x_goto 38 C d_Md_usesS_34 (by decide) ?_
              exact x_zret C hr hlk rfl rfl d_Md_usesS_38
            · refine x_iconst (v := 0) C d_Md_usesS_37 (by decide) ?_
              exact x_zret C hr hlk rfl rfl d_Md_usesS_38
def s_Md_place (mk : Nat → Int32) (a1 : Int32) : Int32 :=
  (if (mk a1.toNatClampNeg) = 2 then (1) else (if (mk a1.toNatClampNeg) = 3 then (1) else (0)))
def k_ok_Md_place (mk : Nat → Int32) (a1 : Int32) : Prop :=
  (vp_in a1 12 ∧ True)
set_option maxHeartbeats 4000000 in
set_option maxRecDepth 100000 in
theorem c_Md_place {l : Launch} {D : va_G} {cA : Nat → ClassId} {ad : x_I → Nat} (ok : x_ok (x_k D cA ad)) {stp : Nat → Nat → Int32} {psz : Int32} {gk : Nat → Nat → Int32} {gl : Nat → Nat → Int64} {gh : Nat → Nat → Int64} {opn : Nat → Int32} {cki : Nat → Int32} {ckl : Nat → Int64} {mp : Nat → Nat → Int64} {rk : Nat → Int32} {rv : Nat → Int64} {ri : Nat → Int32} {chk : Int32} {mo : Nat → Nat → Int32} {mi : Nat → Int32} {ml : Nat → Int64} {mk : Nat → Int32} {mlo : Nat → Int64} {mhi : Nat → Int64} {pk : Nat → Int32} {ps : Nat → Int32} {pl : Nat → Int64} {ph : Nat → Int64} {mm : Nat → Int64} {out : Nat → Int64} (a1 : Int32) (hk : k_ok_Md_place mk a1) : x_M l y_Md_place (Cond.code y_Md_place b_Md_place 2 (Option.some Jvm.ClassFile.FieldType.boolean) :: x_Wd) { frames := 0, cells := 0, slots := 0, locals := 0 } (x_k D cA ad) (x_F ad cA) [(.ref (ad (18, 0))), (.int a1)] ((stp, psz, gk, gl, gh, opn, cki, ckl, mp, rk, rv, ri, chk), (mo, mi, ml, mk, mlo, mhi, pk, ps, pl, ph, mm), out) ((fun q : Int32 => ((some (.int (q)), ((stp, psz, gk, gl, gh, opn, cki, ckl, mp, rk, rv, ri, chk), (mo, mi, ml, mk, mlo, mhi, pk, ps, pl, ph, mm), out)) : Option Value × x_S)) (s_Md_place mk a1)) 0 0 := by
  refine x_start (κ := x_k D cA ad) (cc := b_Md_place) (F := x_F ad cA) (wr := (fun q : Int32 => ((some (.int (q)), ((stp, psz, gk, gl, gh, opn, cki, ckl, mp, rk, rv, ri, chk), (mo, mi, ml, mk, mlo, mhi, pk, ps, pl, ph, mm), out)) : Option Value × x_S))) (q := s_Md_place mk a1) (ret := (Option.some Jvm.ClassFile.FieldType.boolean)) (lv0 := [(0, (.ref (ad (18, 0)))), (1, (.int a1))]) ok (by decide) rfl (Nat.le_of_ble_eq_true rfl) rfl ?_
  intro p e s m below meth c C hr hlk
  unfold s_Md_place
  unfold k_ok_Md_place at hk
  refine x_aload_n 0 C d_Md_place_0 rfl rfl ?_
  refine x_get (i := (18, 0)) (v := (.ref (ad (24, 0)))) 16 C m_18 rfl rfl i_Md (by decide) (List.mem_cons_of_mem _ q_807) rfl d_Md_place_1 ?_
  refine x_iload_n 1 C d_Md_place_4 rfl rfl ?_
  have w1 := hk.1
  have hk := hk.2
  refine x_iald (i := (24, 0)) (g := mk) 0 C m_24 rfl rfl w1 d_Md_place_5 ?_
  refine x_iconst (v := 2) C d_Md_place_6 (by decide) ?_
  refine x_icmp_eq 20 C d_Md_place_7 (by decide) (fun z2 => ?_) (fun z2 => ?_)
  · refine x_iconst (v := 1) C d_Md_place_20 (by decide) ?_
    refine x_goto 25 C d_Md_place_21 (by decide) ?_
    exact x_zret C hr hlk rfl rfl d_Md_place_25
  · refine x_aload_n 0 C d_Md_place_10 rfl rfl ?_
    refine x_get (i := (18, 0)) (v := (.ref (ad (24, 0)))) 16 C m_18 rfl rfl i_Md (by decide) (List.mem_cons_of_mem _ q_807) rfl d_Md_place_11 ?_
    refine x_iload_n 1 C d_Md_place_14 rfl rfl ?_
    refine x_iald (i := (24, 0)) (g := mk) 0 C m_24 rfl rfl w1 d_Md_place_15 ?_
    refine x_iconst (v := 3) C d_Md_place_16 (by decide) ?_
    refine x_icmp_ne 24 C d_Md_place_17 (by decide) (fun z3 => ?_) (fun z3 => ?_)
    · refine x_iconst (v := 1) C d_Md_place_20 (by decide) ?_
      refine x_goto 25 C d_Md_place_21 (by decide) ?_
      exact x_zret C hr hlk rfl rfl d_Md_place_25
    · refine x_iconst (v := 0) C d_Md_place_24 (by decide) ?_
      exact x_zret C hr hlk rfl rfl d_Md_place_25
def s_Md_row (mi : Nat → Int32) (mm : Nat → Int64) (a1 : Int32) (a2 : Int32) : Int64 × (Nat → Int32) :=
  (x_let (s_Md_in (Int32.toInt64 a1) 0 5) fun r1 => (if r1 = 0 then (x_let (s_Md_bad mi 0) fun (r3, mi3) => (if r3 = 0 then (mm (((a1 * 2) + a2).toNatClampNeg), mi3) else (0, mi3))) else (x_let (s_Md_in (Int32.toInt64 a2) 0 1) fun r6 => (if r6 = 0 then (x_let (s_Md_bad mi 0) fun (r8, mi8) => (if r8 = 0 then (mm (((a1 * 2) + a2).toNatClampNeg), mi8) else (0, mi8))) else (x_let (s_Md_bad mi 1) fun (r11, mi11) => (if r11 = 0 then (mm (((a1 * 2) + a2).toNatClampNeg), mi11) else (0, mi11)))))))
def k_ok_Md_row (mi : Nat → Int32) (mm : Nat → Int64) (a1 : Int32) (a2 : Int32) : Prop :=
  (x_let (s_Md_in (Int32.toInt64 a1) 0 5) fun r1 => (if r1 = 0 then (x_let (s_Md_bad mi 0) fun (r3, mi3) => (if r3 = 0 then (vp_in ((a1 * 2) + a2) 12 ∧ True) else True)) else (x_let (s_Md_in (Int32.toInt64 a2) 0 1) fun r6 => (if r6 = 0 then (x_let (s_Md_bad mi 0) fun (r8, mi8) => (if r8 = 0 then (vp_in ((a1 * 2) + a2) 12 ∧ True) else True)) else (x_let (s_Md_bad mi 1) fun (r11, mi11) => (if r11 = 0 then (vp_in ((a1 * 2) + a2) 12 ∧ True) else True))))))
set_option maxHeartbeats 4000000 in
set_option maxRecDepth 100000 in
theorem c_Md_row {l : Launch} {D : va_G} {cA : Nat → ClassId} {ad : x_I → Nat} (ok : x_ok (x_k D cA ad)) {stp : Nat → Nat → Int32} {psz : Int32} {gk : Nat → Nat → Int32} {gl : Nat → Nat → Int64} {gh : Nat → Nat → Int64} {opn : Nat → Int32} {cki : Nat → Int32} {ckl : Nat → Int64} {mp : Nat → Nat → Int64} {rk : Nat → Int32} {rv : Nat → Int64} {ri : Nat → Int32} {chk : Int32} {mo : Nat → Nat → Int32} {mi : Nat → Int32} {ml : Nat → Int64} {mk : Nat → Int32} {mlo : Nat → Int64} {mhi : Nat → Int64} {pk : Nat → Int32} {ps : Nat → Int32} {pl : Nat → Int64} {ph : Nat → Int64} {mm : Nat → Int64} {out : Nat → Int64} (a1 : Int32) (a2 : Int32) (hk : k_ok_Md_row mi mm a1 a2) : x_M l y_Md_row (Cond.code y_Md_row b_Md_row 3 (Option.some Jvm.ClassFile.FieldType.long) :: x_Wd) { frames := 1, cells := 0, slots := 0, locals := 25 } (x_k D cA ad) (x_F ad cA) [(.ref (ad (18, 0))), (.int a1), (.int a2)] ((stp, psz, gk, gl, gh, opn, cki, ckl, mp, rk, rv, ri, chk), (mo, mi, ml, mk, mlo, mhi, pk, ps, pl, ph, mm), out) ((fun q : Int64 × (Nat → Int32) => ((some (.long (q.1)), ((stp, psz, gk, gl, gh, opn, cki, ckl, mp, rk, rv, ri, chk), (mo, q.2, ml, mk, mlo, mhi, pk, ps, pl, ph, mm), out)) : Option Value × x_S)) (s_Md_row mi mm a1 a2)) 0 0 := by
  refine x_start (κ := x_k D cA ad) (cc := b_Md_row) (F := x_F ad cA) (wr := (fun q : Int64 × (Nat → Int32) => ((some (.long (q.1)), ((stp, psz, gk, gl, gh, opn, cki, ckl, mp, rk, rv, ri, chk), (mo, q.2, ml, mk, mlo, mhi, pk, ps, pl, ph, mm), out)) : Option Value × x_S))) (q := s_Md_row mi mm a1 a2) (ret := (Option.some Jvm.ClassFile.FieldType.long)) (lv0 := [(0, (.ref (ad (18, 0)))), (1, (.int a1)), (2, (.int a2))]) ok (by decide) rfl (Nat.le_of_ble_eq_true rfl) rfl ?_
  intro p e s m below meth c C hr hlk
  unfold s_Md_row
  unfold k_ok_Md_row at hk
  refine x_aload_n 0 C d_Md_row_0 rfl rfl ?_
  refine x_iload_n 1 C d_Md_row_1 rfl rfl ?_
  refine x_i2l C d_Md_row_2 ?_
  refine x_lconst (v := 0) C d_Md_row_3 (by decide) ?_
  refine x_ldc2 (v := 5) C (List.mem_cons_of_mem _ q_886) d_Md_row_4 ?_
  refine x_cs (F := x_F ad cA) (As := [(.long (Int32.toInt64 a1)), (.long 0), (.long 5)]) (rest := [(.ref (ad (18, 0)))]) C k_Md_in q_883 (c_Md_in ok (Int32.toInt64 a1) 0 5) rfl rfl rfl (Nat.le_of_ble_eq_true rfl) (Nat.le_of_ble_eq_true rfl) rfl rfl (Nat.le_of_ble_eq_true rfl) d_Md_row_7 ⟨Nat.zero_le _, Nat.zero_le _⟩ ?_
  generalize hq1 : s_Md_in (Int32.toInt64 a1) 0 5 = r1 at hk ⊢
  refine x_lets ?_
  have hk := x_lete hk
  refine x_if_eq 27 C d_Md_row_10 (by decide) (fun z2 => ?_) (fun z2 => ?_)
  · have hk := x_okt hk z2
    refine x_iconst (v := 0) C d_Md_row_27 (by decide) ?_
    refine x_cv (i := (18, 0)) (F := x_F ad cA) (As := [(.int 0)]) (rest := []) C k_Md_bad q_888 (c_Md_bad ok 0) rfl rfl rfl (Nat.le_of_ble_eq_true rfl) (Nat.le_of_ble_eq_true rfl) m_18 rfl rfl rfl rfl rfl (Nat.le_of_ble_eq_true rfl) d_Md_row_28 ⟨Nat.zero_le _, Nat.zero_le _⟩ ?_
    generalize hq3 : s_Md_bad mi 0 = q3 at hk ⊢
    obtain ⟨r3, mi3⟩ := q3
    refine x_lets ?_
    have hk := x_lete hk
    dsimp only at hk ⊢
    refine x_if_eq 36 C d_Md_row_31 (by decide) (fun z4 => ?_) (fun z4 => ?_)
    · have hk := x_okt hk z4
      refine x_aload_n 0 C d_Md_row_36 rfl rfl ?_
      refine x_get (i := (18, 0)) (v := (.ref (ad (31, 0)))) 23 C m_18 rfl rfl i_Md (by decide) (List.mem_cons_of_mem _ q_814) rfl d_Md_row_37 ?_
      refine x_iload_n 1 C d_Md_row_40 rfl rfl ?_
      refine x_iconst (v := 2) C d_Md_row_41 (by decide) ?_
      refine x_imul C d_Md_row_42 ?_
      refine x_iload_n 2 C d_Md_row_43 rfl rfl ?_
      refine x_iadd C d_Md_row_44 ?_
      have w5 := hk.1
      have hk := hk.2
      refine x_lald (i := (31, 0)) (g := mm) 1 C m_31 rfl rfl w5 d_Md_row_45 ?_
      exact x_lret C hr hlk rfl d_Md_row_46
    · have hk := x_okf hk z4
      refine x_lconst (v := 0) C d_Md_row_34 (by decide) ?_
      exact x_lret C hr hlk rfl d_Md_row_35
  · have hk := x_okf hk z2
    refine x_iload_n 2 C d_Md_row_13 rfl rfl ?_
    refine x_i2l C d_Md_row_14 ?_
    refine x_lconst (v := 0) C d_Md_row_15 (by decide) ?_
    refine x_lconst (v := 1) C d_Md_row_16 (by decide) ?_
    refine x_cs (F := x_F ad cA) (As := [(.long (Int32.toInt64 a2)), (.long 0), (.long 1)]) (rest := [(.ref (ad (18, 0)))]) C k_Md_in q_883 (c_Md_in ok (Int32.toInt64 a2) 0 1) rfl rfl rfl (Nat.le_of_ble_eq_true rfl) (Nat.le_of_ble_eq_true rfl) rfl rfl (Nat.le_of_ble_eq_true rfl) d_Md_row_17 ⟨Nat.zero_le _, Nat.zero_le _⟩ ?_
    generalize hq6 : s_Md_in (Int32.toInt64 a2) 0 1 = r6 at hk ⊢
    refine x_lets ?_
    have hk := x_lete hk
    refine x_if_eq 27 C d_Md_row_20 (by decide) (fun z7 => ?_) (fun z7 => ?_)
    · have hk := x_okt hk z7
      refine x_iconst (v := 0) C d_Md_row_27 (by decide) ?_
      refine x_cv (i := (18, 0)) (F := x_F ad cA) (As := [(.int 0)]) (rest := []) C k_Md_bad q_888 (c_Md_bad ok 0) rfl rfl rfl (Nat.le_of_ble_eq_true rfl) (Nat.le_of_ble_eq_true rfl) m_18 rfl rfl rfl rfl rfl (Nat.le_of_ble_eq_true rfl) d_Md_row_28 ⟨Nat.zero_le _, Nat.zero_le _⟩ ?_
      generalize hq8 : s_Md_bad mi 0 = q8 at hk ⊢
      obtain ⟨r8, mi8⟩ := q8
      refine x_lets ?_
      have hk := x_lete hk
      dsimp only at hk ⊢
      refine x_if_eq 36 C d_Md_row_31 (by decide) (fun z9 => ?_) (fun z9 => ?_)
      · have hk := x_okt hk z9
        refine x_aload_n 0 C d_Md_row_36 rfl rfl ?_
        refine x_get (i := (18, 0)) (v := (.ref (ad (31, 0)))) 23 C m_18 rfl rfl i_Md (by decide) (List.mem_cons_of_mem _ q_814) rfl d_Md_row_37 ?_
        refine x_iload_n 1 C d_Md_row_40 rfl rfl ?_
        refine x_iconst (v := 2) C d_Md_row_41 (by decide) ?_
        refine x_imul C d_Md_row_42 ?_
        refine x_iload_n 2 C d_Md_row_43 rfl rfl ?_
        refine x_iadd C d_Md_row_44 ?_
        have w10 := hk.1
        have hk := hk.2
        refine x_lald (i := (31, 0)) (g := mm) 1 C m_31 rfl rfl w10 d_Md_row_45 ?_
        exact x_lret C hr hlk rfl d_Md_row_46
      · have hk := x_okf hk z9
        refine x_lconst (v := 0) C d_Md_row_34 (by decide) ?_
        exact x_lret C hr hlk rfl d_Md_row_35
    · have hk := x_okf hk z7
      refine x_iconst (v := 1) C d_Md_row_23 (by decide) ?_
      refine x_goto 28 C d_Md_row_24 (by decide) ?_
      refine x_cv (i := (18, 0)) (F := x_F ad cA) (As := [(.int 1)]) (rest := []) C k_Md_bad q_888 (c_Md_bad ok 1) rfl rfl rfl (Nat.le_of_ble_eq_true rfl) (Nat.le_of_ble_eq_true rfl) m_18 rfl rfl rfl rfl rfl (Nat.le_of_ble_eq_true rfl) d_Md_row_28 ⟨Nat.zero_le _, Nat.zero_le _⟩ ?_
      generalize hq11 : s_Md_bad mi 1 = q11 at hk ⊢
      obtain ⟨r11, mi11⟩ := q11
      refine x_lets ?_
      have hk := x_lete hk
      dsimp only at hk ⊢
      refine x_if_eq 36 C d_Md_row_31 (by decide) (fun z12 => ?_) (fun z12 => ?_)
      · have hk := x_okt hk z12
        refine x_aload_n 0 C d_Md_row_36 rfl rfl ?_
        refine x_get (i := (18, 0)) (v := (.ref (ad (31, 0)))) 23 C m_18 rfl rfl i_Md (by decide) (List.mem_cons_of_mem _ q_814) rfl d_Md_row_37 ?_
        refine x_iload_n 1 C d_Md_row_40 rfl rfl ?_
        refine x_iconst (v := 2) C d_Md_row_41 (by decide) ?_
        refine x_imul C d_Md_row_42 ?_
        refine x_iload_n 2 C d_Md_row_43 rfl rfl ?_
        refine x_iadd C d_Md_row_44 ?_
        have w13 := hk.1
        have hk := hk.2
        refine x_lald (i := (31, 0)) (g := mm) 1 C m_31 rfl rfl w13 d_Md_row_45 ?_
        exact x_lret C hr hlk rfl d_Md_row_46
      · have hk := x_okf hk z12
        refine x_lconst (v := 0) C d_Md_row_34 (by decide) ?_
        exact x_lret C hr hlk rfl d_Md_row_35
def s_Md_fill (mi : Nat → Int32) (mm : Nat → Int64) (a1 : Int32) (a2 : Int32) (a3 : Int64) : (Nat → Int32) × (Nat → Int64) :=
  (x_let (s_Md_in (Int32.toInt64 a1) 0 5) fun r1 => (if r1 = 0 then (x_let (s_Md_bad mi 0) fun (r3, mi3) => (if r3 = 0 then (mi3, vp_updL mm (((a1 * 2) + a2).toNatClampNeg) a3) else (mi3, mm))) else (x_let (s_Md_in (Int32.toInt64 a2) 0 1) fun r6 => (if r6 = 0 then (x_let (s_Md_bad mi 0) fun (r8, mi8) => (if r8 = 0 then (mi8, vp_updL mm (((a1 * 2) + a2).toNatClampNeg) a3) else (mi8, mm))) else (x_let (s_Md_bad mi 1) fun (r11, mi11) => (if r11 = 0 then (mi11, vp_updL mm (((a1 * 2) + a2).toNatClampNeg) a3) else (mi11, mm)))))))
def k_ok_Md_fill (mi : Nat → Int32) (mm : Nat → Int64) (a1 : Int32) (a2 : Int32) (a3 : Int64) : Prop :=
  (x_let (s_Md_in (Int32.toInt64 a1) 0 5) fun r1 => (if r1 = 0 then (x_let (s_Md_bad mi 0) fun (r3, mi3) => (if r3 = 0 then (vp_in ((a1 * 2) + a2) 12 ∧ True) else True)) else (x_let (s_Md_in (Int32.toInt64 a2) 0 1) fun r6 => (if r6 = 0 then (x_let (s_Md_bad mi 0) fun (r8, mi8) => (if r8 = 0 then (vp_in ((a1 * 2) + a2) 12 ∧ True) else True)) else (x_let (s_Md_bad mi 1) fun (r11, mi11) => (if r11 = 0 then (vp_in ((a1 * 2) + a2) 12 ∧ True) else True))))))
set_option maxHeartbeats 4000000 in
set_option maxRecDepth 100000 in
theorem c_Md_fill {l : Launch} {D : va_G} {cA : Nat → ClassId} {ad : x_I → Nat} (ok : x_ok (x_k D cA ad)) {stp : Nat → Nat → Int32} {psz : Int32} {gk : Nat → Nat → Int32} {gl : Nat → Nat → Int64} {gh : Nat → Nat → Int64} {opn : Nat → Int32} {cki : Nat → Int32} {ckl : Nat → Int64} {mp : Nat → Nat → Int64} {rk : Nat → Int32} {rv : Nat → Int64} {ri : Nat → Int32} {chk : Int32} {mo : Nat → Nat → Int32} {mi : Nat → Int32} {ml : Nat → Int64} {mk : Nat → Int32} {mlo : Nat → Int64} {mhi : Nat → Int64} {pk : Nat → Int32} {ps : Nat → Int32} {pl : Nat → Int64} {ph : Nat → Int64} {mm : Nat → Int64} {out : Nat → Int64} (a1 : Int32) (a2 : Int32) (a3 : Int64) (hk : k_ok_Md_fill mi mm a1 a2 a3) : x_M l y_Md_fill (Cond.code y_Md_fill b_Md_fill 5 (Option.none : Option Jvm.ClassFile.FieldType) :: x_Wd) { frames := 1, cells := 0, slots := 0, locals := 25 } (x_k D cA ad) (x_F ad cA) [(.ref (ad (18, 0))), (.int a1), (.int a2), (.long a3)] ((stp, psz, gk, gl, gh, opn, cki, ckl, mp, rk, rv, ri, chk), (mo, mi, ml, mk, mlo, mhi, pk, ps, pl, ph, mm), out) ((fun q : (Nat → Int32) × (Nat → Int64) => ((none, ((stp, psz, gk, gl, gh, opn, cki, ckl, mp, rk, rv, ri, chk), (mo, q.1, ml, mk, mlo, mhi, pk, ps, pl, ph, q.2), out)) : Option Value × x_S)) (s_Md_fill mi mm a1 a2 a3)) 0 0 := by
  refine x_start (κ := x_k D cA ad) (cc := b_Md_fill) (F := x_F ad cA) (wr := (fun q : (Nat → Int32) × (Nat → Int64) => ((none, ((stp, psz, gk, gl, gh, opn, cki, ckl, mp, rk, rv, ri, chk), (mo, q.1, ml, mk, mlo, mhi, pk, ps, pl, ph, q.2), out)) : Option Value × x_S))) (q := s_Md_fill mi mm a1 a2 a3) (ret := (Option.none : Option Jvm.ClassFile.FieldType)) (lv0 := [(0, (.ref (ad (18, 0)))), (1, (.int a1)), (2, (.int a2)), (3, (.long a3))]) ok (by decide) rfl (Nat.le_of_ble_eq_true rfl) rfl ?_
  intro p e s m below meth c C hr hlk
  unfold s_Md_fill
  unfold k_ok_Md_fill at hk
  refine x_aload_n 0 C d_Md_fill_0 rfl rfl ?_
  refine x_iload_n 1 C d_Md_fill_1 rfl rfl ?_
  refine x_i2l C d_Md_fill_2 ?_
  refine x_lconst (v := 0) C d_Md_fill_3 (by decide) ?_
  refine x_ldc2 (v := 5) C (List.mem_cons_of_mem _ q_886) d_Md_fill_4 ?_
  refine x_cs (F := x_F ad cA) (As := [(.long (Int32.toInt64 a1)), (.long 0), (.long 5)]) (rest := [(.ref (ad (18, 0)))]) C k_Md_in q_883 (c_Md_in ok (Int32.toInt64 a1) 0 5) rfl rfl rfl (Nat.le_of_ble_eq_true rfl) (Nat.le_of_ble_eq_true rfl) rfl rfl (Nat.le_of_ble_eq_true rfl) d_Md_fill_7 ⟨Nat.zero_le _, Nat.zero_le _⟩ ?_
  generalize hq1 : s_Md_in (Int32.toInt64 a1) 0 5 = r1 at hk ⊢
  refine x_lets ?_
  have hk := x_lete hk
  refine x_if_eq 27 C d_Md_fill_10 (by decide) (fun z2 => ?_) (fun z2 => ?_)
  · have hk := x_okt hk z2
    refine x_iconst (v := 0) C d_Md_fill_27 (by decide) ?_
    refine x_cv (i := (18, 0)) (F := x_F ad cA) (As := [(.int 0)]) (rest := []) C k_Md_bad q_888 (c_Md_bad ok 0) rfl rfl rfl (Nat.le_of_ble_eq_true rfl) (Nat.le_of_ble_eq_true rfl) m_18 rfl rfl rfl rfl rfl (Nat.le_of_ble_eq_true rfl) d_Md_fill_28 ⟨Nat.zero_le _, Nat.zero_le _⟩ ?_
    generalize hq3 : s_Md_bad mi 0 = q3 at hk ⊢
    obtain ⟨r3, mi3⟩ := q3
    refine x_lets ?_
    have hk := x_lete hk
    dsimp only at hk ⊢
    refine x_if_eq 35 C d_Md_fill_31 (by decide) (fun z4 => ?_) (fun z4 => ?_)
    · have hk := x_okt hk z4
      refine x_aload_n 0 C d_Md_fill_35 rfl rfl ?_
      refine x_get (i := (18, 0)) (v := (.ref (ad (31, 0)))) 23 C m_18 rfl rfl i_Md (by decide) (List.mem_cons_of_mem _ q_814) rfl d_Md_fill_36 ?_
      refine x_iload_n 1 C d_Md_fill_39 rfl rfl ?_
      refine x_iconst (v := 2) C d_Md_fill_40 (by decide) ?_
      refine x_imul C d_Md_fill_41 ?_
      refine x_iload_n 2 C d_Md_fill_42 rfl rfl ?_
      refine x_iadd C d_Md_fill_43 ?_
      refine x_lload_n 3 C d_Md_fill_44 rfl rfl ?_
      have w5 := hk.1
      have hk := hk.2
      refine x_last (i := (31, 0)) (g := mm) (f' := x_F ad cA ((stp, psz, gk, gl, gh, opn, cki, ckl, mp, rk, rv, ri, chk), (mo, mi3, ml, mk, mlo, mhi, pk, ps, pl, ph, vp_updL mm (((a1 * 2) + a2).toNatClampNeg) a3), out)) 1 C m_31 rfl rfl w5 d_Md_fill_45 e_mm ?_
      exact x_vret C hr hlk rfl d_Md_fill_46
    · have hk := x_okf hk z4
      exact x_vret C hr hlk rfl d_Md_fill_34
  · have hk := x_okf hk z2
    refine x_iload_n 2 C d_Md_fill_13 rfl rfl ?_
    refine x_i2l C d_Md_fill_14 ?_
    refine x_lconst (v := 0) C d_Md_fill_15 (by decide) ?_
    refine x_lconst (v := 1) C d_Md_fill_16 (by decide) ?_
    refine x_cs (F := x_F ad cA) (As := [(.long (Int32.toInt64 a2)), (.long 0), (.long 1)]) (rest := [(.ref (ad (18, 0)))]) C k_Md_in q_883 (c_Md_in ok (Int32.toInt64 a2) 0 1) rfl rfl rfl (Nat.le_of_ble_eq_true rfl) (Nat.le_of_ble_eq_true rfl) rfl rfl (Nat.le_of_ble_eq_true rfl) d_Md_fill_17 ⟨Nat.zero_le _, Nat.zero_le _⟩ ?_
    generalize hq6 : s_Md_in (Int32.toInt64 a2) 0 1 = r6 at hk ⊢
    refine x_lets ?_
    have hk := x_lete hk
    refine x_if_eq 27 C d_Md_fill_20 (by decide) (fun z7 => ?_) (fun z7 => ?_)
    · have hk := x_okt hk z7
      refine x_iconst (v := 0) C d_Md_fill_27 (by decide) ?_
      refine x_cv (i := (18, 0)) (F := x_F ad cA) (As := [(.int 0)]) (rest := []) C k_Md_bad q_888 (c_Md_bad ok 0) rfl rfl rfl (Nat.le_of_ble_eq_true rfl) (Nat.le_of_ble_eq_true rfl) m_18 rfl rfl rfl rfl rfl (Nat.le_of_ble_eq_true rfl) d_Md_fill_28 ⟨Nat.zero_le _, Nat.zero_le _⟩ ?_
      generalize hq8 : s_Md_bad mi 0 = q8 at hk ⊢
      obtain ⟨r8, mi8⟩ := q8
      refine x_lets ?_
      have hk := x_lete hk
      dsimp only at hk ⊢
      refine x_if_eq 35 C d_Md_fill_31 (by decide) (fun z9 => ?_) (fun z9 => ?_)
      · have hk := x_okt hk z9
        refine x_aload_n 0 C d_Md_fill_35 rfl rfl ?_
        refine x_get (i := (18, 0)) (v := (.ref (ad (31, 0)))) 23 C m_18 rfl rfl i_Md (by decide) (List.mem_cons_of_mem _ q_814) rfl d_Md_fill_36 ?_
        refine x_iload_n 1 C d_Md_fill_39 rfl rfl ?_
        refine x_iconst (v := 2) C d_Md_fill_40 (by decide) ?_
        refine x_imul C d_Md_fill_41 ?_
        refine x_iload_n 2 C d_Md_fill_42 rfl rfl ?_
        refine x_iadd C d_Md_fill_43 ?_
        refine x_lload_n 3 C d_Md_fill_44 rfl rfl ?_
        have w10 := hk.1
        have hk := hk.2
        refine x_last (i := (31, 0)) (g := mm) (f' := x_F ad cA ((stp, psz, gk, gl, gh, opn, cki, ckl, mp, rk, rv, ri, chk), (mo, mi8, ml, mk, mlo, mhi, pk, ps, pl, ph, vp_updL mm (((a1 * 2) + a2).toNatClampNeg) a3), out)) 1 C m_31 rfl rfl w10 d_Md_fill_45 e_mm ?_
        exact x_vret C hr hlk rfl d_Md_fill_46
      · have hk := x_okf hk z9
        exact x_vret C hr hlk rfl d_Md_fill_34
    · have hk := x_okf hk z7
      refine x_iconst (v := 1) C d_Md_fill_23 (by decide) ?_
      refine x_goto 28 C d_Md_fill_24 (by decide) ?_
      refine x_cv (i := (18, 0)) (F := x_F ad cA) (As := [(.int 1)]) (rest := []) C k_Md_bad q_888 (c_Md_bad ok 1) rfl rfl rfl (Nat.le_of_ble_eq_true rfl) (Nat.le_of_ble_eq_true rfl) m_18 rfl rfl rfl rfl rfl (Nat.le_of_ble_eq_true rfl) d_Md_fill_28 ⟨Nat.zero_le _, Nat.zero_le _⟩ ?_
      generalize hq11 : s_Md_bad mi 1 = q11 at hk ⊢
      obtain ⟨r11, mi11⟩ := q11
      refine x_lets ?_
      have hk := x_lete hk
      dsimp only at hk ⊢
      refine x_if_eq 35 C d_Md_fill_31 (by decide) (fun z12 => ?_) (fun z12 => ?_)
      · have hk := x_okt hk z12
        refine x_aload_n 0 C d_Md_fill_35 rfl rfl ?_
        refine x_get (i := (18, 0)) (v := (.ref (ad (31, 0)))) 23 C m_18 rfl rfl i_Md (by decide) (List.mem_cons_of_mem _ q_814) rfl d_Md_fill_36 ?_
        refine x_iload_n 1 C d_Md_fill_39 rfl rfl ?_
        refine x_iconst (v := 2) C d_Md_fill_40 (by decide) ?_
        refine x_imul C d_Md_fill_41 ?_
        refine x_iload_n 2 C d_Md_fill_42 rfl rfl ?_
        refine x_iadd C d_Md_fill_43 ?_
        refine x_lload_n 3 C d_Md_fill_44 rfl rfl ?_
        have w13 := hk.1
        have hk := hk.2
        refine x_last (i := (31, 0)) (g := mm) (f' := x_F ad cA ((stp, psz, gk, gl, gh, opn, cki, ckl, mp, rk, rv, ri, chk), (mo, mi11, ml, mk, mlo, mhi, pk, ps, pl, ph, vp_updL mm (((a1 * 2) + a2).toNatClampNeg) a3), out)) 1 C m_31 rfl rfl w13 d_Md_fill_45 e_mm ?_
        exact x_vret C hr hlk rfl d_Md_fill_46
      · have hk := x_okf hk z12
        exact x_vret C hr hlk rfl d_Md_fill_34
def s_Md_outcome (mi : Nat → Int32) (ml : Nat → Int64) (a1 : Int32) : Int64 × (Nat → Int32) :=
  (if (mi 7) = 0 then (if ((upd mi 6 1) 7) = 0 then (0, upd mi 6 1) else (if a1 = 0 then (ml 0, upd mi 6 1) else (ml 1, upd mi 6 1))) else (if ((upd mi 6 0) 7) = 0 then (0, upd mi 6 0) else (if a1 = 0 then (ml 0, upd mi 6 0) else (ml 1, upd mi 6 0))))
set_option maxHeartbeats 4000000 in
set_option maxRecDepth 100000 in
theorem c_Md_outcome {l : Launch} {D : va_G} {cA : Nat → ClassId} {ad : x_I → Nat} (ok : x_ok (x_k D cA ad)) {stp : Nat → Nat → Int32} {psz : Int32} {gk : Nat → Nat → Int32} {gl : Nat → Nat → Int64} {gh : Nat → Nat → Int64} {opn : Nat → Int32} {cki : Nat → Int32} {ckl : Nat → Int64} {mp : Nat → Nat → Int64} {rk : Nat → Int32} {rv : Nat → Int64} {ri : Nat → Int32} {chk : Int32} {mo : Nat → Nat → Int32} {mi : Nat → Int32} {ml : Nat → Int64} {mk : Nat → Int32} {mlo : Nat → Int64} {mhi : Nat → Int64} {pk : Nat → Int32} {ps : Nat → Int32} {pl : Nat → Int64} {ph : Nat → Int64} {mm : Nat → Int64} {out : Nat → Int64} (a1 : Int32) : x_M l y_Md_outcome (Cond.code y_Md_outcome b_Md_outcome 2 (Option.some Jvm.ClassFile.FieldType.long) :: x_Wd) { frames := 0, cells := 0, slots := 0, locals := 0 } (x_k D cA ad) (x_F ad cA) [(.ref (ad (18, 0))), (.int a1)] ((stp, psz, gk, gl, gh, opn, cki, ckl, mp, rk, rv, ri, chk), (mo, mi, ml, mk, mlo, mhi, pk, ps, pl, ph, mm), out) ((fun q : Int64 × (Nat → Int32) => ((some (.long (q.1)), ((stp, psz, gk, gl, gh, opn, cki, ckl, mp, rk, rv, ri, chk), (mo, q.2, ml, mk, mlo, mhi, pk, ps, pl, ph, mm), out)) : Option Value × x_S)) (s_Md_outcome mi ml a1)) 0 0 := by
  refine x_start (κ := x_k D cA ad) (cc := b_Md_outcome) (F := x_F ad cA) (wr := (fun q : Int64 × (Nat → Int32) => ((some (.long (q.1)), ((stp, psz, gk, gl, gh, opn, cki, ckl, mp, rk, rv, ri, chk), (mo, q.2, ml, mk, mlo, mhi, pk, ps, pl, ph, mm), out)) : Option Value × x_S))) (q := s_Md_outcome mi ml a1) (ret := (Option.some Jvm.ClassFile.FieldType.long)) (lv0 := [(0, (.ref (ad (18, 0)))), (1, (.int a1))]) ok (by decide) rfl (Nat.le_of_ble_eq_true rfl) rfl ?_
  intro p e s m below meth c C hr hlk
  unfold s_Md_outcome
  refine x_aload_n 0 C d_Md_outcome_0 rfl rfl ?_
  refine x_aload_n 0 C d_Md_outcome_1 rfl rfl ?_
  refine x_get (i := (18, 0)) (v := (.int (mi 7))) 12 C m_18 rfl rfl i_Md (by decide) (List.mem_cons_of_mem _ q_803) rfl d_Md_outcome_2 ?_
  refine x_if_eq 12 C d_Md_outcome_5 (by decide) (fun z1 => ?_) (fun z1 => ?_)
  · refine x_iconst (v := 1) C d_Md_outcome_12 (by decide) ?_
    refine x_put (i := (18, 0)) (f' := x_F ad cA ((stp, psz, gk, gl, gh, opn, cki, ckl, mp, rk, rv, ri, chk), (mo, upd mi 6 1, ml, mk, mlo, mhi, pk, ps, pl, ph, mm), out)) 11 C m_18 rfl rfl i_Md t_Md_ok n_Md (by decide) (List.mem_cons_of_mem _ q_802) rfl rfl rfl (Nat.le_of_ble_eq_true rfl) d_Md_outcome_13 e_mi6 ?_
    refine x_aload_n 0 C d_Md_outcome_16 rfl rfl ?_
    refine x_get (i := (18, 0)) (v := (.int ((upd mi 6 1) 7))) 12 C m_18 rfl rfl i_Md (by decide) (List.mem_cons_of_mem _ q_803) rfl d_Md_outcome_17 ?_
    refine x_if_ne 27 C d_Md_outcome_20 (by decide) (fun z2 => ?_) (fun z2 => ?_)
    · refine x_lconst (v := 0) C d_Md_outcome_23 (by decide) ?_
      refine x_goto 42 C d_Md_outcome_24 (by decide) ?_
      exact x_lret C hr hlk rfl d_Md_outcome_42
    · refine x_iload_n 1 C d_Md_outcome_27 rfl rfl ?_
      refine x_if_eq 38 C d_Md_outcome_28 (by decide) (fun z3 => ?_) (fun z3 => ?_)
      · refine x_aload_n 0 C d_Md_outcome_38 rfl rfl ?_
        refine x_get (i := (18, 0)) (v := (.long (ml 0))) 14 C m_18 rfl rfl i_Md (by decide) (List.mem_cons_of_mem _ q_805) rfl d_Md_outcome_39 ?_
        exact x_lret C hr hlk rfl d_Md_outcome_42
      · refine x_aload_n 0 C d_Md_outcome_31 rfl rfl ?_
        refine x_get (i := (18, 0)) (v := (.long (ml 1))) 15 C m_18 rfl rfl i_Md (by decide) (List.mem_cons_of_mem _ q_806) rfl d_Md_outcome_32 ?_
        refine x_goto 42 C d_Md_outcome_35 (by decide) ?_
        exact x_lret C hr hlk rfl d_Md_outcome_42
  · refine x_iconst (v := 0) C d_Md_outcome_8 (by decide) ?_
    refine x_goto 13 C d_Md_outcome_9 (by decide) ?_
    refine x_put (i := (18, 0)) (f' := x_F ad cA ((stp, psz, gk, gl, gh, opn, cki, ckl, mp, rk, rv, ri, chk), (mo, upd mi 6 0, ml, mk, mlo, mhi, pk, ps, pl, ph, mm), out)) 11 C m_18 rfl rfl i_Md t_Md_ok n_Md (by decide) (List.mem_cons_of_mem _ q_802) rfl rfl rfl (Nat.le_of_ble_eq_true rfl) d_Md_outcome_13 e_mi6 ?_
    refine x_aload_n 0 C d_Md_outcome_16 rfl rfl ?_
    refine x_get (i := (18, 0)) (v := (.int ((upd mi 6 0) 7))) 12 C m_18 rfl rfl i_Md (by decide) (List.mem_cons_of_mem _ q_803) rfl d_Md_outcome_17 ?_
    refine x_if_ne 27 C d_Md_outcome_20 (by decide) (fun z4 => ?_) (fun z4 => ?_)
    · refine x_lconst (v := 0) C d_Md_outcome_23 (by decide) ?_
      refine x_goto 42 C d_Md_outcome_24 (by decide) ?_
      exact x_lret C hr hlk rfl d_Md_outcome_42
    · refine x_iload_n 1 C d_Md_outcome_27 rfl rfl ?_
      refine x_if_eq 38 C d_Md_outcome_28 (by decide) (fun z5 => ?_) (fun z5 => ?_)
      · refine x_aload_n 0 C d_Md_outcome_38 rfl rfl ?_
        refine x_get (i := (18, 0)) (v := (.long (ml 0))) 14 C m_18 rfl rfl i_Md (by decide) (List.mem_cons_of_mem _ q_805) rfl d_Md_outcome_39 ?_
        exact x_lret C hr hlk rfl d_Md_outcome_42
      · refine x_aload_n 0 C d_Md_outcome_31 rfl rfl ?_
        refine x_get (i := (18, 0)) (v := (.long (ml 1))) 15 C m_18 rfl rfl i_Md (by decide) (List.mem_cons_of_mem _ q_806) rfl d_Md_outcome_32 ?_
        refine x_goto 42 C d_Md_outcome_35 (by decide) ?_
        exact x_lret C hr hlk rfl d_Md_outcome_42
def s_Md_count (mi : Nat → Int32) (a1 : Int32) : Int32 × (Nat → Int32) :=
  (if a1 = 0 then ((upd mi 6 0) 0, upd mi 6 0) else if a1 = 1 then (if ((upd mi 6 0) 7) = 0 then (0, upd mi 6 0) else (1, upd mi 6 0)) else if a1 = 2 then ((upd mi 6 0) 1, upd mi 6 0) else if a1 = 3 then ((upd mi 6 0) 2, upd mi 6 0) else if a1 = 4 then ((upd mi 6 0) 3, upd mi 6 0) else if a1 = 5 then ((upd mi 6 0) 4, upd mi 6 0) else if a1 = 6 then ((upd mi 6 0) 5, upd mi 6 0) else ((-1), upd mi 6 0))
set_option maxHeartbeats 4000000 in
set_option maxRecDepth 100000 in
theorem c_Md_count {l : Launch} {D : va_G} {cA : Nat → ClassId} {ad : x_I → Nat} (ok : x_ok (x_k D cA ad)) {stp : Nat → Nat → Int32} {psz : Int32} {gk : Nat → Nat → Int32} {gl : Nat → Nat → Int64} {gh : Nat → Nat → Int64} {opn : Nat → Int32} {cki : Nat → Int32} {ckl : Nat → Int64} {mp : Nat → Nat → Int64} {rk : Nat → Int32} {rv : Nat → Int64} {ri : Nat → Int32} {chk : Int32} {mo : Nat → Nat → Int32} {mi : Nat → Int32} {ml : Nat → Int64} {mk : Nat → Int32} {mlo : Nat → Int64} {mhi : Nat → Int64} {pk : Nat → Int32} {ps : Nat → Int32} {pl : Nat → Int64} {ph : Nat → Int64} {mm : Nat → Int64} {out : Nat → Int64} (a1 : Int32) : x_M l y_Md_count (Cond.code y_Md_count b_Md_count 2 (Option.some Jvm.ClassFile.FieldType.int) :: x_Wd) { frames := 0, cells := 0, slots := 0, locals := 0 } (x_k D cA ad) (x_F ad cA) [(.ref (ad (18, 0))), (.int a1)] ((stp, psz, gk, gl, gh, opn, cki, ckl, mp, rk, rv, ri, chk), (mo, mi, ml, mk, mlo, mhi, pk, ps, pl, ph, mm), out) ((fun q : Int32 × (Nat → Int32) => ((some (.int (q.1)), ((stp, psz, gk, gl, gh, opn, cki, ckl, mp, rk, rv, ri, chk), (mo, q.2, ml, mk, mlo, mhi, pk, ps, pl, ph, mm), out)) : Option Value × x_S)) (s_Md_count mi a1)) 0 0 := by
  refine x_start (κ := x_k D cA ad) (cc := b_Md_count) (F := x_F ad cA) (wr := (fun q : Int32 × (Nat → Int32) => ((some (.int (q.1)), ((stp, psz, gk, gl, gh, opn, cki, ckl, mp, rk, rv, ri, chk), (mo, q.2, ml, mk, mlo, mhi, pk, ps, pl, ph, mm), out)) : Option Value × x_S))) (q := s_Md_count mi a1) (ret := (Option.some Jvm.ClassFile.FieldType.int)) (lv0 := [(0, (.ref (ad (18, 0)))), (1, (.int a1))]) ok (by decide) rfl (Nat.le_of_ble_eq_true rfl) rfl ?_
  intro p e s m below meth c C hr hlk
  unfold s_Md_count
  refine x_aload_n 0 C d_Md_count_0 rfl rfl ?_
  refine x_iconst (v := 0) C d_Md_count_1 (by decide) ?_
  refine x_put (i := (18, 0)) (f' := x_F ad cA ((stp, psz, gk, gl, gh, opn, cki, ckl, mp, rk, rv, ri, chk), (mo, upd mi 6 0, ml, mk, mlo, mhi, pk, ps, pl, ph, mm), out)) 11 C m_18 rfl rfl i_Md t_Md_ok n_Md (by decide) (List.mem_cons_of_mem _ q_802) rfl rfl rfl (Nat.le_of_ble_eq_true rfl) d_Md_count_2 e_mi6 ?_
  refine x_iload_n 1 C d_Md_count_5 rfl rfl ?_
  refine x_ite (fun z1 => ?_) (fun z1 => ?_)
  · refine x_tsw 48 C d_Md_count_6 (by rw [z1]; decide) (by rw [z1]; decide) (by rw [z1]; rfl) (by decide) ?_
    refine x_aload_n 0 C d_Md_count_48 rfl rfl ?_
    refine x_get (i := (18, 0)) (v := (.int ((upd mi 6 0) 0))) 5 C m_18 rfl rfl i_Md (by decide) (List.mem_cons_of_mem _ q_796) rfl d_Md_count_49 ?_
    exact x_iret C hr hlk rfl d_Md_count_52
  refine x_ite (fun z2 => ?_) (fun z2 => ?_)
  · refine x_tsw 53 C d_Md_count_6 (by rw [z2]; decide) (by rw [z2]; decide) (by rw [z2]; rfl) (by decide) ?_
    refine x_aload_n 0 C d_Md_count_53 rfl rfl ?_
    refine x_get (i := (18, 0)) (v := (.int ((upd mi 6 0) 7))) 12 C m_18 rfl rfl i_Md (by decide) (List.mem_cons_of_mem _ q_803) rfl d_Md_count_54 ?_
    refine x_if_eq 64 C d_Md_count_57 (by decide) (fun z3 => ?_) (fun z3 => ?_)
    · refine x_iconst (v := 0) C d_Md_count_64 (by decide) ?_
      exact x_iret C hr hlk rfl d_Md_count_65
    · refine x_iconst (v := 1) C d_Md_count_60 (by decide) ?_
      refine x_goto 65 C d_Md_count_61 (by decide) ?_
      exact x_iret C hr hlk rfl d_Md_count_65
  refine x_ite (fun z4 => ?_) (fun z4 => ?_)
  · refine x_tsw 66 C d_Md_count_6 (by rw [z4]; decide) (by rw [z4]; decide) (by rw [z4]; rfl) (by decide) ?_
    refine x_aload_n 0 C d_Md_count_66 rfl rfl ?_
    refine x_get (i := (18, 0)) (v := (.int ((upd mi 6 0) 1))) 6 C m_18 rfl rfl i_Md (by decide) (List.mem_cons_of_mem _ q_797) rfl d_Md_count_67 ?_
    exact x_iret C hr hlk rfl d_Md_count_70
  refine x_ite (fun z5 => ?_) (fun z5 => ?_)
  · refine x_tsw 71 C d_Md_count_6 (by rw [z5]; decide) (by rw [z5]; decide) (by rw [z5]; rfl) (by decide) ?_
    refine x_aload_n 0 C d_Md_count_71 rfl rfl ?_
    refine x_get (i := (18, 0)) (v := (.int ((upd mi 6 0) 2))) 7 C m_18 rfl rfl i_Md (by decide) (List.mem_cons_of_mem _ q_798) rfl d_Md_count_72 ?_
    exact x_iret C hr hlk rfl d_Md_count_75
  refine x_ite (fun z6 => ?_) (fun z6 => ?_)
  · refine x_tsw 76 C d_Md_count_6 (by rw [z6]; decide) (by rw [z6]; decide) (by rw [z6]; rfl) (by decide) ?_
    refine x_aload_n 0 C d_Md_count_76 rfl rfl ?_
    refine x_get (i := (18, 0)) (v := (.int ((upd mi 6 0) 3))) 8 C m_18 rfl rfl i_Md (by decide) (List.mem_cons_of_mem _ q_799) rfl d_Md_count_77 ?_
    exact x_iret C hr hlk rfl d_Md_count_80
  refine x_ite (fun z7 => ?_) (fun z7 => ?_)
  · refine x_tsw 81 C d_Md_count_6 (by rw [z7]; decide) (by rw [z7]; decide) (by rw [z7]; rfl) (by decide) ?_
    refine x_aload_n 0 C d_Md_count_81 rfl rfl ?_
    refine x_get (i := (18, 0)) (v := (.int ((upd mi 6 0) 4))) 9 C m_18 rfl rfl i_Md (by decide) (List.mem_cons_of_mem _ q_800) rfl d_Md_count_82 ?_
    exact x_iret C hr hlk rfl d_Md_count_85
  refine x_ite (fun z8 => ?_) (fun z8 => ?_)
  · refine x_tsw 86 C d_Md_count_6 (by rw [z8]; decide) (by rw [z8]; decide) (by rw [z8]; rfl) (by decide) ?_
    refine x_aload_n 0 C d_Md_count_86 rfl rfl ?_
    refine x_get (i := (18, 0)) (v := (.int ((upd mi 6 0) 5))) 10 C m_18 rfl rfl i_Md (by decide) (List.mem_cons_of_mem _ q_801) rfl d_Md_count_87 ?_
    exact x_iret C hr hlk rfl d_Md_count_90
  refine x_tswE 91 [0, 1, 2, 3, 4, 5, 6] C d_Md_count_6 (by decide) (List.forall_mem_cons.mpr ⟨x_nik z1 (by decide), List.forall_mem_cons.mpr ⟨x_nik z2 (by decide), List.forall_mem_cons.mpr ⟨x_nik z4 (by decide), List.forall_mem_cons.mpr ⟨x_nik z5 (by decide), List.forall_mem_cons.mpr ⟨x_nik z6 (by decide), List.forall_mem_cons.mpr ⟨x_nik z7 (by decide), List.forall_mem_cons.mpr ⟨x_nik z8 (by decide), fun _ h => absurd h List.not_mem_nil⟩⟩⟩⟩⟩⟩⟩) (by decide) ?_
  refine x_iconst (v := (-1)) C d_Md_count_91 (by decide) ?_
  exact x_iret C hr hlk rfl d_Md_count_92
