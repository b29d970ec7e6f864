def s_Gs_kind (gk : Nat → Nat → Int32) (i : Nat) (a1 : Int32) : Int32 :=
  (gk i a1.toNatClampNeg)
set_option maxHeartbeats 4000000 in
set_option maxRecDepth 100000 in
theorem c_Gs_kind {l : Launch} {D : va_G} {cA : Nat → ClassId} {ad : x_I → Nat} (ok : x_ok (x_k D cA ad)) {stp : Nat → Nat → Int32} {psz : Int32} {gk : Nat → Nat → Int32} {gl : Nat → Nat → Int64} {gh : Nat → Nat → Int64} {opn : Nat → Int32} {cki : Nat → Int32} {ckl : Nat → Int64} {mp : Nat → Nat → Int64} {rk : Nat → Int32} {rv : Nat → Int64} {ri : Nat → Int32} {chk : Int32} {mo : Nat → Nat → Int32} {mi : Nat → Int32} {ml : Nat → Int64} {mk : Nat → Int32} {mlo : Nat → Int64} {mhi : Nat → Int64} {pk : Nat → Int32} {ps : Nat → Int32} {pl : Nat → Int64} {ph : Nat → Int64} {mm : Nat → Int64} {out : Nat → Int64} (i : Nat) (hi : i < 25) (a1 : Int32) (h1 : vp_in a1 12) : x_M l y_Gs_kind (Cond.code y_Gs_kind b_Gs_kind 2 (Option.some Jvm.ClassFile.FieldType.int) :: x_Wd) { frames := 0, cells := 0, slots := 0, locals := 0 } (x_k D cA ad) (x_F ad cA) [(.ref (ad (5, i))), (.int a1)] ((stp, psz, gk, gl, gh, opn, cki, ckl, mp, rk, rv, ri, chk), (mo, mi, ml, mk, mlo, mhi, pk, ps, pl, ph, mm), out) ((fun q : Int32 => ((some (.int (q)), ((stp, psz, gk, gl, gh, opn, cki, ckl, mp, rk, rv, ri, chk), (mo, mi, ml, mk, mlo, mhi, pk, ps, pl, ph, mm), out)) : Option Value × x_S)) (s_Gs_kind gk i a1)) 0 0 := by
  refine x_start (κ := x_k D cA ad) (cc := b_Gs_kind) (F := x_F ad cA) (wr := (fun q : Int32 => ((some (.int (q)), ((stp, psz, gk, gl, gh, opn, cki, ckl, mp, rk, rv, ri, chk), (mo, mi, ml, mk, mlo, mhi, pk, ps, pl, ph, mm), out)) : Option Value × x_S))) (q := s_Gs_kind gk i a1) (ret := (Option.some Jvm.ClassFile.FieldType.int)) (lv0 := [(0, (.ref (ad (5, i)))), (1, (.int a1))]) ok (by decide) rfl (Nat.le_of_ble_eq_true rfl) rfl ?_
  intro p e s m below meth c C hr hlk
  unfold s_Gs_kind
  refine x_aload_n 0 C d_Gs_kind_0 rfl rfl ?_
  refine x_get (i := (5, i)) (v := (.ref (ad (6, i)))) 0 C (m_5 hi) rfl rfl i_Gs (by decide) (List.mem_cons_of_mem _ q_98) rfl d_Gs_kind_1 ?_
  refine x_iload_n 1 C d_Gs_kind_4 rfl rfl ?_
  refine x_iald (i := (6, i)) (g := gk i) 0 C (m_6 hi) rfl rfl h1 d_Gs_kind_5 ?_
  exact x_iret C hr hlk rfl d_Gs_kind_6
def s_Gs_lo (gl : Nat → Nat → Int64) (i : Nat) (a1 : Int32) : Int64 :=
  (gl i a1.toNatClampNeg)
set_option maxHeartbeats 4000000 in
set_option maxRecDepth 100000 in
theorem c_Gs_lo {l : Launch} {D : va_G} {cA : Nat → ClassId} {ad : x_I → Nat} (ok : x_ok (x_k D cA ad)) {stp : Nat → Nat → Int32} {psz : Int32} {gk : Nat → Nat → Int32} {gl : Nat → Nat → Int64} {gh : Nat → Nat → Int64} {opn : Nat → Int32} {cki : Nat → Int32} {ckl : Nat → Int64} {mp : Nat → Nat → Int64} {rk : Nat → Int32} {rv : Nat → Int64} {ri : Nat → Int32} {chk : Int32} {mo : Nat → Nat → Int32} {mi : Nat → Int32} {ml : Nat → Int64} {mk : Nat → Int32} {mlo : Nat → Int64} {mhi : Nat → Int64} {pk : Nat → Int32} {ps : Nat → Int32} {pl : Nat → Int64} {ph : Nat → Int64} {mm : Nat → Int64} {out : Nat → Int64} (i : Nat) (hi : i < 25) (a1 : Int32) (h1 : vp_in a1 12) : x_M l y_Gs_lo (Cond.code y_Gs_lo b_Gs_lo 2 (Option.some Jvm.ClassFile.FieldType.long) :: x_Wd) { frames := 0, cells := 0, slots := 0, locals := 0 } (x_k D cA ad) (x_F ad cA) [(.ref (ad (5, i))), (.int a1)] ((stp, psz, gk, gl, gh, opn, cki, ckl, mp, rk, rv, ri, chk), (mo, mi, ml, mk, mlo, mhi, pk, ps, pl, ph, mm), out) ((fun q : Int64 => ((some (.long (q)), ((stp, psz, gk, gl, gh, opn, cki, ckl, mp, rk, rv, ri, chk), (mo, mi, ml, mk, mlo, mhi, pk, ps, pl, ph, mm), out)) : Option Value × x_S)) (s_Gs_lo gl i a1)) 0 0 := by
  refine x_start (κ := x_k D cA ad) (cc := b_Gs_lo) (F := x_F ad cA) (wr := (fun q : Int64 => ((some (.long (q)), ((stp, psz, gk, gl, gh, opn, cki, ckl, mp, rk, rv, ri, chk), (mo, mi, ml, mk, mlo, mhi, pk, ps, pl, ph, mm), out)) : Option Value × x_S))) (q := s_Gs_lo gl i a1) (ret := (Option.some Jvm.ClassFile.FieldType.long)) (lv0 := [(0, (.ref (ad (5, i)))), (1, (.int a1))]) ok (by decide) rfl (Nat.le_of_ble_eq_true rfl) rfl ?_
  intro p e s m below meth c C hr hlk
  unfold s_Gs_lo
  refine x_aload_n 0 C d_Gs_lo_0 rfl rfl ?_
  refine x_get (i := (5, i)) (v := (.ref (ad (7, i)))) 1 C (m_5 hi) rfl rfl i_Gs (by decide) (List.mem_cons_of_mem _ q_99) rfl d_Gs_lo_1 ?_
  refine x_iload_n 1 C d_Gs_lo_4 rfl rfl ?_
  refine x_lald (i := (7, i)) (g := gl i) 1 C (m_7 hi) rfl rfl h1 d_Gs_lo_5 ?_
  exact x_lret C hr hlk rfl d_Gs_lo_6
def s_Gs_hi (gh : Nat → Nat → Int64) (i : Nat) (a1 : Int32) : Int64 :=
  (gh i a1.toNatClampNeg)
set_option maxHeartbeats 4000000 in
set_option maxRecDepth 100000 in
theorem c_Gs_hi {l : Launch} {D : va_G} {cA : Nat → ClassId} {ad : x_I → Nat} (ok : x_ok (x_k D cA ad)) {stp : Nat → Nat → Int32} {psz : Int32} {gk : Nat → Nat → Int32} {gl : Nat → Nat → Int64} {gh : Nat → Nat → Int64} {opn : Nat → Int32} {cki : Nat → Int32} {ckl : Nat → Int64} {mp : Nat → Nat → Int64} {rk : Nat → Int32} {rv : Nat → Int64} {ri : Nat → Int32} {chk : Int32} {mo : Nat → Nat → Int32} {mi : Nat → Int32} {ml : Nat → Int64} {mk : Nat → Int32} {mlo : Nat → Int64} {mhi : Nat → Int64} {pk : Nat → Int32} {ps : Nat → Int32} {pl : Nat → Int64} {ph : Nat → Int64} {mm : Nat → Int64} {out : Nat → Int64} (i : Nat) (hi : i < 25) (a1 : Int32) (h1 : vp_in a1 12) : x_M l y_Gs_hi (Cond.code y_Gs_hi b_Gs_hi 2 (Option.some Jvm.ClassFile.FieldType.long) :: x_Wd) { frames := 0, cells := 0, slots := 0, locals := 0 } (x_k D cA ad) (x_F ad cA) [(.ref (ad (5, i))), (.int a1)] ((stp, psz, gk, gl, gh, opn, cki, ckl, mp, rk, rv, ri, chk), (mo, mi, ml, mk, mlo, mhi, pk, ps, pl, ph, mm), out) ((fun q : Int64 => ((some (.long (q)), ((stp, psz, gk, gl, gh, opn, cki, ckl, mp, rk, rv, ri, chk), (mo, mi, ml, mk, mlo, mhi, pk, ps, pl, ph, mm), out)) : Option Value × x_S)) (s_Gs_hi gh i a1)) 0 0 := by
  refine x_start (κ := x_k D cA ad) (cc := b_Gs_hi) (F := x_F ad cA) (wr := (fun q : Int64 => ((some (.long (q)), ((stp, psz, gk, gl, gh, opn, cki, ckl, mp, rk, rv, ri, chk), (mo, mi, ml, mk, mlo, mhi, pk, ps, pl, ph, mm), out)) : Option Value × x_S))) (q := s_Gs_hi gh i a1) (ret := (Option.some Jvm.ClassFile.FieldType.long)) (lv0 := [(0, (.ref (ad (5, i)))), (1, (.int a1))]) ok (by decide) rfl (Nat.le_of_ble_eq_true rfl) rfl ?_
  intro p e s m below meth c C hr hlk
  unfold s_Gs_hi
  refine x_aload_n 0 C d_Gs_hi_0 rfl rfl ?_
  refine x_get (i := (5, i)) (v := (.ref (ad (8, i)))) 2 C (m_5 hi) rfl rfl i_Gs (by decide) (List.mem_cons_of_mem _ q_100) rfl d_Gs_hi_1 ?_
  refine x_iload_n 1 C d_Gs_hi_4 rfl rfl ?_
  refine x_lald (i := (8, i)) (g := gh i) 1 C (m_8 hi) rfl rfl h1 d_Gs_hi_5 ?_
  exact x_lret C hr hlk rfl d_Gs_hi_6
def s_Gs_isEmpty (gk : Nat → Nat → Int32) (i : Nat) (a1 : Int32) : Int32 :=
  (if (gk i a1.toNatClampNeg) = 0 then (1) else (0))
set_option maxHeartbeats 4000000 in
set_option maxRecDepth 100000 in
theorem c_Gs_isEmpty {l : Launch} {D : va_G} {cA : Nat → ClassId} {ad : x_I → Nat} (ok : x_ok (x_k D cA ad)) {stp : Nat → Nat → Int32} {psz : Int32} {gk : Nat → Nat → Int32} {gl : Nat → Nat → Int64} {gh : Nat → Nat → Int64} {opn : Nat → Int32} {cki : Nat → Int32} {ckl : Nat → Int64} {mp : Nat → Nat → Int64} {rk : Nat → Int32} {rv : Nat → Int64} {ri : Nat → Int32} {chk : Int32} {mo : Nat → Nat → Int32} {mi : Nat → Int32} {ml : Nat → Int64} {mk : Nat → Int32} {mlo : Nat → Int64} {mhi : Nat → Int64} {pk : Nat → Int32} {ps : Nat → Int32} {pl : Nat → Int64} {ph : Nat → Int64} {mm : Nat → Int64} {out : Nat → Int64} (i : Nat) (hi : i < 25) (a1 : Int32) (h1 : vp_in a1 12) : x_M l y_Gs_isEmpty (Cond.code y_Gs_isEmpty b_Gs_isEmpty 2 (Option.some Jvm.ClassFile.FieldType.boolean) :: x_Wd) { frames := 0, cells := 0, slots := 0, locals := 0 } (x_k D cA ad) (x_F ad cA) [(.ref (ad (5, i))), (.int a1)] ((stp, psz, gk, gl, gh, opn, cki, ckl, mp, rk, rv, ri, chk), (mo, mi, ml, mk, mlo, mhi, pk, ps, pl, ph, mm), out) ((fun q : Int32 => ((some (.int (q)), ((stp, psz, gk, gl, gh, opn, cki, ckl, mp, rk, rv, ri, chk), (mo, mi, ml, mk, mlo, mhi, pk, ps, pl, ph, mm), out)) : Option Value × x_S)) (s_Gs_isEmpty gk i a1)) 0 0 := by
  refine x_start (κ := x_k D cA ad) (cc := b_Gs_isEmpty) (F := x_F ad cA) (wr := (fun q : Int32 => ((some (.int (q)), ((stp, psz, gk, gl, gh, opn, cki, ckl, mp, rk, rv, ri, chk), (mo, mi, ml, mk, mlo, mhi, pk, ps, pl, ph, mm), out)) : Option Value × x_S))) (q := s_Gs_isEmpty gk i a1) (ret := (Option.some Jvm.ClassFile.FieldType.boolean)) (lv0 := [(0, (.ref (ad (5, i)))), (1, (.int a1))]) ok (by decide) rfl (Nat.le_of_ble_eq_true rfl) rfl ?_
  intro p e s m below meth c C hr hlk
  unfold s_Gs_isEmpty
  refine x_aload_n 0 C d_Gs_isEmpty_0 rfl rfl ?_
  refine x_get (i := (5, i)) (v := (.ref (ad (6, i)))) 0 C (m_5 hi) rfl rfl i_Gs (by decide) (List.mem_cons_of_mem _ q_98) rfl d_Gs_isEmpty_1 ?_
  refine x_iload_n 1 C d_Gs_isEmpty_4 rfl rfl ?_
  refine x_iald (i := (6, i)) (g := gk i) 0 C (m_6 hi) rfl rfl h1 d_Gs_isEmpty_5 ?_
  refine x_if_ne 13 C d_Gs_isEmpty_6 (by decide) (fun z1 => ?_) (fun z1 => ?_)
  · refine x_iconst (v := 1) C d_Gs_isEmpty_9 (by decide) ?_
    refine x_goto 14 C d_Gs_isEmpty_10 (by decide) ?_
    exact x_zret C hr hlk rfl rfl d_Gs_isEmpty_14
  · refine x_iconst (v := 0) C d_Gs_isEmpty_13 (by decide) ?_
    exact x_zret C hr hlk rfl rfl d_Gs_isEmpty_14
def s_Gs_isRange (gk : Nat → Nat → Int32) (i : Nat) (a1 : Int32) : Int32 :=
  (if (gk i a1.toNatClampNeg) = 1 then (1) else (0))
set_option maxHeartbeats 4000000 in
set_option maxRecDepth 100000 in
theorem c_Gs_isRange {l : Launch} {D : va_G} {cA : Nat → ClassId} {ad : x_I → Nat} (ok : x_ok (x_k D cA ad)) {stp : Nat → Nat → Int32} {psz : Int32} {gk : Nat → Nat → Int32} {gl : Nat → Nat → Int64} {gh : Nat → Nat → Int64} {opn : Nat → Int32} {cki : Nat → Int32} {ckl : Nat → Int64} {mp : Nat → Nat → Int64} {rk : Nat → Int32} {rv : Nat → Int64} {ri : Nat → Int32} {chk : Int32} {mo : Nat → Nat → Int32} {mi : Nat → Int32} {ml : Nat → Int64} {mk : Nat → Int32} {mlo : Nat → Int64} {mhi : Nat → Int64} {pk : Nat → Int32} {ps : Nat → Int32} {pl : Nat → Int64} {ph : Nat → Int64} {mm : Nat → Int64} {out : Nat → Int64} (i : Nat) (hi : i < 25) (a1 : Int32) (h1 : vp_in a1 12) : x_M l y_Gs_isRange (Cond.code y_Gs_isRange b_Gs_isRange 2 (Option.some Jvm.ClassFile.FieldType.boolean) :: x_Wd) { frames := 0, cells := 0, slots := 0, locals := 0 } (x_k D cA ad) (x_F ad cA) [(.ref (ad (5, i))), (.int a1)] ((stp, psz, gk, gl, gh, opn, cki, ckl, mp, rk, rv, ri, chk), (mo, mi, ml, mk, mlo, mhi, pk, ps, pl, ph, mm), out) ((fun q : Int32 => ((some (.int (q)), ((stp, psz, gk, gl, gh, opn, cki, ckl, mp, rk, rv, ri, chk), (mo, mi, ml, mk, mlo, mhi, pk, ps, pl, ph, mm), out)) : Option Value × x_S)) (s_Gs_isRange gk i a1)) 0 0 := by
  refine x_start (κ := x_k D cA ad) (cc := b_Gs_isRange) (F := x_F ad cA) (wr := (fun q : Int32 => ((some (.int (q)), ((stp, psz, gk, gl, gh, opn, cki, ckl, mp, rk, rv, ri, chk), (mo, mi, ml, mk, mlo, mhi, pk, ps, pl, ph, mm), out)) : Option Value × x_S))) (q := s_Gs_isRange gk i a1) (ret := (Option.some Jvm.ClassFile.FieldType.boolean)) (lv0 := [(0, (.ref (ad (5, i)))), (1, (.int a1))]) ok (by decide) rfl (Nat.le_of_ble_eq_true rfl) rfl ?_
  intro p e s m below meth c C hr hlk
  unfold s_Gs_isRange
  refine x_aload_n 0 C d_Gs_isRange_0 rfl rfl ?_
  refine x_get (i := (5, i)) (v := (.ref (ad (6, i)))) 0 C (m_5 hi) rfl rfl i_Gs (by decide) (List.mem_cons_of_mem _ q_98) rfl d_Gs_isRange_1 ?_
  refine x_iload_n 1 C d_Gs_isRange_4 rfl rfl ?_
  refine x_iald (i := (6, i)) (g := gk i) 0 C (m_6 hi) rfl rfl h1 d_Gs_isRange_5 ?_
  refine x_iconst (v := 1) C d_Gs_isRange_6 (by decide) ?_
  refine x_icmp_ne 14 C d_Gs_isRange_7 (by decide) (fun z1 => ?_) (fun z1 => ?_)
  · refine x_iconst (v := 1) C d_Gs_isRange_10 (by decide) ?_
    refine x_goto 15 C d_Gs_isRange_11 (by decide) ?_
    exact x_zret C hr hlk rfl rfl d_Gs_isRange_15
  · refine x_iconst (v := 0) C d_Gs_isRange_14 (by decide) ?_
    exact x_zret C hr hlk rfl rfl d_Gs_isRange_15
def s_Gs_isPlace (gk : Nat → Nat → Int32) (i : Nat) (a1 : Int32) : Int32 :=
  (if (gk i a1.toNatClampNeg) = 2 then (1) else (if (gk i a1.toNatClampNeg) = 3 then (1) else (0)))
set_option maxHeartbeats 4000000 in
set_option maxRecDepth 100000 in
theorem c_Gs_isPlace {l : Launch} {D : va_G} {cA : Nat → ClassId} {ad : x_I → Nat} (ok : x_ok (x_k D cA ad)) {stp : Nat → Nat → Int32} {psz : Int32} {gk : Nat → Nat → Int32} {gl : Nat → Nat → Int64} {gh : Nat → Nat → Int64} {opn : Nat → Int32} {cki : Nat → Int32} {ckl : Nat → Int64} {mp : Nat → Nat → Int64} {rk : Nat → Int32} {rv : Nat → Int64} {ri : Nat → Int32} {chk : Int32} {mo : Nat → Nat → Int32} {mi : Nat → Int32} {ml : Nat → Int64} {mk : Nat → Int32} {mlo : Nat → Int64} {mhi : Nat → Int64} {pk : Nat → Int32} {ps : Nat → Int32} {pl : Nat → Int64} {ph : Nat → Int64} {mm : Nat → Int64} {out : Nat → Int64} (i : Nat) (hi : i < 25) (a1 : Int32) (h1 : vp_in a1 12) : x_M l y_Gs_isPlace (Cond.code y_Gs_isPlace b_Gs_isPlace 2 (Option.some Jvm.ClassFile.FieldType.boolean) :: x_Wd) { frames := 0, cells := 0, slots := 0, locals := 0 } (x_k D cA ad) (x_F ad cA) [(.ref (ad (5, i))), (.int a1)] ((stp, psz, gk, gl, gh, opn, cki, ckl, mp, rk, rv, ri, chk), (mo, mi, ml, mk, mlo, mhi, pk, ps, pl, ph, mm), out) ((fun q : Int32 => ((some (.int (q)), ((stp, psz, gk, gl, gh, opn, cki, ckl, mp, rk, rv, ri, chk), (mo, mi, ml, mk, mlo, mhi, pk, ps, pl, ph, mm), out)) : Option Value × x_S)) (s_Gs_isPlace gk i a1)) 0 0 := by
  refine x_start (κ := x_k D cA ad) (cc := b_Gs_isPlace) (F := x_F ad cA) (wr := (fun q : Int32 => ((some (.int (q)), ((stp, psz, gk, gl, gh, opn, cki, ckl, mp, rk, rv, ri, chk), (mo, mi, ml, mk, mlo, mhi, pk, ps, pl, ph, mm), out)) : Option Value × x_S))) (q := s_Gs_isPlace gk i a1) (ret := (Option.some Jvm.ClassFile.FieldType.boolean)) (lv0 := [(0, (.ref (ad (5, i)))), (1, (.int a1))]) ok (by decide) rfl (Nat.le_of_ble_eq_true rfl) rfl ?_
  intro p e s m below meth c C hr hlk
  unfold s_Gs_isPlace
  refine x_aload_n 0 C d_Gs_isPlace_0 rfl rfl ?_
  refine x_get (i := (5, i)) (v := (.ref (ad (6, i)))) 0 C (m_5 hi) rfl rfl i_Gs (by decide) (List.mem_cons_of_mem _ q_98) rfl d_Gs_isPlace_1 ?_
  refine x_iload_n 1 C d_Gs_isPlace_4 rfl rfl ?_
  refine x_iald (i := (6, i)) (g := gk i) 0 C (m_6 hi) rfl rfl h1 d_Gs_isPlace_5 ?_
  refine x_iconst (v := 2) C d_Gs_isPlace_6 (by decide) ?_
  refine x_icmp_eq 20 C d_Gs_isPlace_7 (by decide) (fun z1 => ?_) (fun z1 => ?_)
  · refine x_iconst (v := 1) C d_Gs_isPlace_20 (by decide) ?_
    refine x_goto 25 C d_Gs_isPlace_21 (by decide) ?_
    exact x_zret C hr hlk rfl rfl d_Gs_isPlace_25
  · refine x_aload_n 0 C d_Gs_isPlace_10 rfl rfl ?_
    refine x_get (i := (5, i)) (v := (.ref (ad (6, i)))) 0 C (m_5 hi) rfl rfl i_Gs (by decide) (List.mem_cons_of_mem _ q_98) rfl d_Gs_isPlace_11 ?_
    refine x_iload_n 1 C d_Gs_isPlace_14 rfl rfl ?_
    refine x_iald (i := (6, i)) (g := gk i) 0 C (m_6 hi) rfl rfl h1 d_Gs_isPlace_15 ?_
    refine x_iconst (v := 3) C d_Gs_isPlace_16 (by decide) ?_
    refine x_icmp_ne 24 C d_Gs_isPlace_17 (by decide) (fun z2 => ?_) (fun z2 => ?_)
    · refine x_iconst (v := 1) C d_Gs_isPlace_20 (by decide) ?_
      refine x_goto 25 C d_Gs_isPlace_21 (by decide) ?_
      exact x_zret C hr hlk rfl rfl d_Gs_isPlace_25
    · refine x_iconst (v := 0) C d_Gs_isPlace_24 (by decide) ?_
      exact x_zret C hr hlk rfl rfl d_Gs_isPlace_25
def s_Gs_set (gk : Nat → Nat → Int32) (gl : Nat → Nat → Int64) (gh : Nat → Nat → Int64) (i : Nat) (a1 : Int32) (a2 : Int32) (a3 : Int64) (a4 : Int64) : (Nat → Nat → Int32) × (Nat → Nat → Int64) × (Nat → Nat → Int64) :=
  (va_up gk i (upd (gk i) a1.toNatClampNeg a2), va_up gl i (vp_updL (gl i) a1.toNatClampNeg a3), va_up gh i (vp_updL (gh i) a1.toNatClampNeg a4))
set_option maxHeartbeats 4000000 in
set_option maxRecDepth 100000 in
theorem c_Gs_set {l : Launch} {D : va_G} {cA : Nat → ClassId} {ad : x_I → Nat} (ok : x_ok (x_k D cA ad)) {stp : Nat → Nat → Int32} {psz : Int32} {gk : Nat → Nat → Int32} {gl : Nat → Nat → Int64} {gh : Nat → Nat → Int64} {opn : Nat → Int32} {cki : Nat → Int32} {ckl : Nat → Int64} {mp : Nat → Nat → Int64} {rk : Nat → Int32} {rv : Nat → Int64} {ri : Nat → Int32} {chk : Int32} {mo : Nat → Nat → Int32} {mi : Nat → Int32} {ml : Nat → Int64} {mk : Nat → Int32} {mlo : Nat → Int64} {mhi : Nat → Int64} {pk : Nat → Int32} {ps : Nat → Int32} {pl : Nat → Int64} {ph : Nat → Int64} {mm : Nat → Int64} {out : Nat → Int64} (i : Nat) (hi : i < 25) (a1 : Int32) (a2 : Int32) (a3 : Int64) (a4 : Int64) (h1 : vp_in a1 12) : x_M l y_Gs_set (Cond.code y_Gs_set b_Gs_set 7 (Option.none : Option Jvm.ClassFile.FieldType) :: x_Wd) { frames := 0, cells := 0, slots := 0, locals := 0 } (x_k D cA ad) (x_F ad cA) [(.ref (ad (5, i))), (.int a1), (.int a2), (.long a3), (.long a4)] ((stp, psz, gk, gl, gh, opn, cki, ckl, mp, rk, rv, ri, chk), (mo, mi, ml, mk, mlo, mhi, pk, ps, pl, ph, mm), out) ((fun q : (Nat → Nat → Int32) × (Nat → Nat → Int64) × (Nat → Nat → Int64) => ((none, ((stp, psz, q.1, q.2.1, q.2.2, opn, cki, ckl, mp, rk, rv, ri, chk), (mo, mi, ml, mk, mlo, mhi, pk, ps, pl, ph, mm), out)) : Option Value × x_S)) (s_Gs_set gk gl gh i a1 a2 a3 a4)) 0 0 := by
  refine x_start (κ := x_k D cA ad) (cc := b_Gs_set) (F := x_F ad cA) (wr := (fun q : (Nat → Nat → Int32) × (Nat → Nat → Int64) × (Nat → Nat → Int64) => ((none, ((stp, psz, q.1, q.2.1, q.2.2, opn, cki, ckl, mp, rk, rv, ri, chk), (mo, mi, ml, mk, mlo, mhi, pk, ps, pl, ph, mm), out)) : Option Value × x_S))) (q := s_Gs_set gk gl gh i a1 a2 a3 a4) (ret := (Option.none : Option Jvm.ClassFile.FieldType)) (lv0 := [(0, (.ref (ad (5, i)))), (1, (.int a1)), (2, (.int a2)), (3, (.long a3)), (5, (.long a4))]) ok (by decide) rfl (Nat.le_of_ble_eq_true rfl) rfl ?_
  intro p e s m below meth c C hr hlk
  unfold s_Gs_set
  refine x_aload_n 0 C d_Gs_set_0 rfl rfl ?_
  refine x_get (i := (5, i)) (v := (.ref (ad (6, i)))) 0 C (m_5 hi) rfl rfl i_Gs (by decide) (List.mem_cons_of_mem _ q_98) rfl d_Gs_set_1 ?_
  refine x_iload_n 1 C d_Gs_set_4 rfl rfl ?_
  refine x_iload_n 2 C d_Gs_set_5 rfl rfl ?_
  refine x_iast (i := (6, i)) (g := gk i) (f' := x_F ad cA ((stp, psz, va_up gk i (upd (gk i) a1.toNatClampNeg a2), gl, gh, opn, cki, ckl, mp, rk, rv, ri, chk), (mo, mi, ml, mk, mlo, mhi, pk, ps, pl, ph, mm), out)) 0 C (m_6 hi) rfl rfl h1 d_Gs_set_6 e_gk ?_
  refine x_aload_n 0 C d_Gs_set_7 rfl rfl ?_
  refine x_get (i := (5, i)) (v := (.ref (ad (7, i)))) 1 C (m_5 hi) rfl rfl i_Gs (by decide) (List.mem_cons_of_mem _ q_99) rfl d_Gs_set_8 ?_
  refine x_iload_n 1 C d_Gs_set_11 rfl rfl ?_
  refine x_lload_n 3 C d_Gs_set_12 rfl rfl ?_
  refine x_last (i := (7, i)) (g := gl i) (f' := x_F ad cA ((stp, psz, va_up gk i (upd (gk i) a1.toNatClampNeg a2), va_up gl i (vp_updL (gl i) a1.toNatClampNeg a3), gh, opn, cki, ckl, mp, rk, rv, ri, chk), (mo, mi, ml, mk, mlo, mhi, pk, ps, pl, ph, mm), out)) 1 C (m_7 hi) rfl rfl h1 d_Gs_set_13 e_gl ?_
  refine x_aload_n 0 C d_Gs_set_14 rfl rfl ?_
  refine x_get (i := (5, i)) (v := (.ref (ad (8, i)))) 2 C (m_5 hi) rfl rfl i_Gs (by decide) (List.mem_cons_of_mem _ q_100) rfl d_Gs_set_15 ?_
  refine x_iload_n 1 C d_Gs_set_18 rfl rfl ?_
  refine x_lload 4 C d_Gs_set_19 rfl ?_
  refine x_last (i := (8, i)) (g := gh i) (f' := x_F ad cA ((stp, psz, va_up gk i (upd (gk i) a1.toNatClampNeg a2), va_up gl i (vp_updL (gl i) a1.toNatClampNeg a3), va_up gh i (vp_updL (gh i) a1.toNatClampNeg a4), opn, cki, ckl, mp, rk, rv, ri, chk), (mo, mi, ml, mk, mlo, mhi, pk, ps, pl, ph, mm), out)) 1 C (m_8 hi) rfl rfl h1 d_Gs_set_21 e_gh ?_
  exact x_vret C hr hlk rfl d_Gs_set_22
def s_Gs_setRange (gk : Nat → Nat → Int32) (gl : Nat → Nat → Int64) (gh : Nat → Nat → Int64) (i : Nat) (a1 : Int32) (a2 : Int64) (a3 : Int64) : (Nat → Nat → Int32) × (Nat → Nat → Int64) × (Nat → Nat → Int64) :=
  (x_let (s_Gs_set gk gl gh i a1 1 a2 a3) fun (gk1, gl1, gh1) => (gk1, gl1, gh1))
set_option maxHeartbeats 4000000 in
set_option maxRecDepth 100000 in
theorem c_Gs_setRange {l : Launch} {D : va_G} {cA : Nat → ClassId} {ad : x_I → Nat} (ok : x_ok (x_k D cA ad)) {stp : Nat → Nat → Int32} {psz : Int32} {gk : Nat → Nat → Int32} {gl : Nat → Nat → Int64} {gh : Nat → Nat → Int64} {opn : Nat → Int32} {cki : Nat → Int32} {ckl : Nat → Int64} {mp : Nat → Nat → Int64} {rk : Nat → Int32} {rv : Nat → Int64} {ri : Nat → Int32} {chk : Int32} {mo : Nat → Nat → Int32} {mi : Nat → Int32} {ml : Nat → Int64} {mk : Nat → Int32} {mlo : Nat → Int64} {mhi : Nat → Int64} {pk : Nat → Int32} {ps : Nat → Int32} {pl : Nat → Int64} {ph : Nat → Int64} {mm : Nat → Int64} {out : Nat → Int64} (i : Nat) (hi : i < 25) (a1 : Int32) (a2 : Int64) (a3 : Int64) (h1 : vp_in a1 12) : x_M l y_Gs_setRange (Cond.code y_Gs_setRange b_Gs_setRange 6 (Option.none : Option Jvm.ClassFile.FieldType) :: x_Wd) { frames := 1, cells := 0, slots := 0, locals := 26 } (x_k D cA ad) (x_F ad cA) [(.ref (ad (5, i))), (.int a1), (.long a2), (.long a3)] ((stp, psz, gk, gl, gh, opn, cki, ckl, mp, rk, rv, ri, chk), (mo, mi, ml, mk, mlo, mhi, pk, ps, pl, ph, mm), out) ((fun q : (Nat → Nat → Int32) × (Nat → Nat → Int64) × (Nat → Nat → Int64) => ((none, ((stp, psz, q.1, q.2.1, q.2.2, opn, cki, ckl, mp, rk, rv, ri, chk), (mo, mi, ml, mk, mlo, mhi, pk, ps, pl, ph, mm), out)) : Option Value × x_S)) (s_Gs_setRange gk gl gh i a1 a2 a3)) 0 0 := by
  refine x_start (κ := x_k D cA ad) (cc := b_Gs_setRange) (F := x_F ad cA) (wr := (fun q : (Nat → Nat → Int32) × (Nat → Nat → Int64) × (Nat → Nat → Int64) => ((none, ((stp, psz, q.1, q.2.1, q.2.2, opn, cki, ckl, mp, rk, rv, ri, chk), (mo, mi, ml, mk, mlo, mhi, pk, ps, pl, ph, mm), out)) : Option Value × x_S))) (q := s_Gs_setRange gk gl gh i a1 a2 a3) (ret := (Option.none : Option Jvm.ClassFile.FieldType)) (lv0 := [(0, (.ref (ad (5, i)))), (1, (.int a1)), (2, (.long a2)), (4, (.long a3))]) ok (by decide) rfl (Nat.le_of_ble_eq_true rfl) rfl ?_
  intro p e s m below meth c C hr hlk
  unfold s_Gs_setRange
  refine x_aload_n 0 C d_Gs_setRange_0 rfl rfl ?_
  refine x_iload_n 1 C d_Gs_setRange_1 rfl rfl ?_
  refine x_iconst (v := 1) C d_Gs_setRange_2 (by decide) ?_
  refine x_lload_n 2 C d_Gs_setRange_3 rfl rfl ?_
  refine x_lload 3 C d_Gs_setRange_4 rfl ?_
  refine x_cv0 (i := (5, i)) (F := x_F ad cA) (As := [(.int a1), (.int 1), (.long a2), (.long a3)]) (rest := []) C k_Gs_set q_415 (c_Gs_set ok i hi a1 1 a2 a3 h1) rfl rfl rfl (Nat.le_of_ble_eq_true rfl) (Nat.le_of_ble_eq_true rfl) (m_5 hi) rfl rfl rfl rfl rfl (Nat.le_of_ble_eq_true rfl) d_Gs_setRange_6 ⟨Nat.zero_le _, Nat.zero_le _⟩ ?_
  generalize hq1 : s_Gs_set gk gl gh i a1 1 a2 a3 = q1
  obtain ⟨gk1, gl1, gh1⟩ := q1
  refine x_lets ?_
  dsimp only
  exact x_vret C hr hlk rfl d_Gs_setRange_9
def s_Gs_setAny (gk : Nat → Nat → Int32) (gl : Nat → Nat → Int64) (gh : Nat → Nat → Int64) (i : Nat) (a1 : Int32) : (Nat → Nat → Int32) × (Nat → Nat → Int64) × (Nat → Nat → Int64) :=
  (x_let (s_Gs_set gk gl gh i a1 1 (-9223372036854775808) 9223372036854775807) fun (gk1, gl1, gh1) => (gk1, gl1, gh1))
set_option maxHeartbeats 4000000 in
set_option maxRecDepth 100000 in
theorem c_Gs_setAny {l : Launch} {D : va_G} {cA : Nat → ClassId} {ad : x_I → Nat} (ok : x_ok (x_k D cA ad)) {stp : Nat → Nat → Int32} {psz : Int32} {gk : Nat → Nat → Int32} {gl : Nat → Nat → Int64} {gh : Nat → Nat → Int64} {opn : Nat → Int32} {cki : Nat → Int32} {ckl : Nat → Int64} {mp : Nat → Nat → Int64} {rk : Nat → Int32} {rv : Nat → Int64} {ri : Nat → Int32} {chk : Int32} {mo : Nat → Nat → Int32} {mi : Nat → Int32} {ml : Nat → Int64} {mk : Nat → Int32} {mlo : Nat → Int64} {mhi : Nat → Int64} {pk : Nat → Int32} {ps : Nat → Int32} {pl : Nat → Int64} {ph : Nat → Int64} {mm : Nat → Int64} {out : Nat → Int64} (i : Nat) (hi : i < 25) (a1 : Int32) (h1 : vp_in a1 12) : x_M l y_Gs_setAny (Cond.code y_Gs_setAny b_Gs_setAny 2 (Option.none : Option Jvm.ClassFile.FieldType) :: x_Wd) { frames := 1, cells := 0, slots := 0, locals := 26 } (x_k D cA ad) (x_F ad cA) [(.ref (ad (5, i))), (.int a1)] ((stp, psz, gk, gl, gh, opn, cki, ckl, mp, rk, rv, ri, chk), (mo, mi, ml, mk, mlo, mhi, pk, ps, pl, ph, mm), out) ((fun q : (Nat → Nat → Int32) × (Nat → Nat → Int64) × (Nat → Nat → Int64) => ((none, ((stp, psz, q.1, q.2.1, q.2.2, opn, cki, ckl, mp, rk, rv, ri, chk), (mo, mi, ml, mk, mlo, mhi, pk, ps, pl, ph, mm), out)) : Option Value × x_S)) (s_Gs_setAny gk gl gh i a1)) 0 0 := by
  refine x_start (κ := x_k D cA ad) (cc := b_Gs_setAny) (F := x_F ad cA) (wr := (fun q : (Nat → Nat → Int32) × (Nat → Nat → Int64) × (Nat → Nat → Int64) => ((none, ((stp, psz, q.1, q.2.1, q.2.2, opn, cki, ckl, mp, rk, rv, ri, chk), (mo, mi, ml, mk, mlo, mhi, pk, ps, pl, ph, mm), out)) : Option Value × x_S))) (q := s_Gs_setAny gk gl gh i a1) (ret := (Option.none : Option Jvm.ClassFile.FieldType)) (lv0 := [(0, (.ref (ad (5, i)))), (1, (.int a1))]) ok (by decide) rfl (Nat.le_of_ble_eq_true rfl) rfl ?_
  intro p e s m below meth c C hr hlk
  unfold s_Gs_setAny
  refine x_aload_n 0 C d_Gs_setAny_0 rfl rfl ?_
  refine x_iload_n 1 C d_Gs_setAny_1 rfl rfl ?_
  refine x_iconst (v := 1) C d_Gs_setAny_2 (by decide) ?_
  refine x_ldc2 (v := (-9223372036854775808)) C (List.mem_cons_of_mem _ q_423) d_Gs_setAny_3 ?_
  refine x_ldc2 (v := 9223372036854775807) C (List.mem_cons_of_mem _ q_424) d_Gs_setAny_6 ?_
  refine x_cv0 (i := (5, i)) (F := x_F ad cA) (As := [(.int a1), (.int 1), (.long (-9223372036854775808)), (.long 9223372036854775807)]) (rest := []) C k_Gs_set q_415 (c_Gs_set ok i hi a1 1 (-9223372036854775808) 9223372036854775807 h1) rfl rfl rfl (Nat.le_of_ble_eq_true rfl) (Nat.le_of_ble_eq_true rfl) (m_5 hi) rfl rfl rfl rfl rfl (Nat.le_of_ble_eq_true rfl) d_Gs_setAny_9 ⟨Nat.zero_le _, Nat.zero_le _⟩ ?_
  generalize hq1 : s_Gs_set gk gl gh i a1 1 (-9223372036854775808) 9223372036854775807 = q1
  obtain ⟨gk1, gl1, gh1⟩ := q1
  refine x_lets ?_
  dsimp only
  exact x_vret C hr hlk rfl d_Gs_setAny_12
def s_Gs_clear (gk : Nat → Nat → Int32) (gl : Nat → Nat → Int64) (gh : Nat → Nat → Int64) (i : Nat) (a1 : Int32) : (Nat → Nat → Int32) × (Nat → Nat → Int64) × (Nat → Nat → Int64) :=
  (x_let (s_Gs_set gk gl gh i a1 0 0 0) fun (gk1, gl1, gh1) => (gk1, gl1, gh1))
set_option maxHeartbeats 4000000 in
set_option maxRecDepth 100000 in
theorem c_Gs_clear {l : Launch} {D : va_G} {cA : Nat → ClassId} {ad : x_I → Nat} (ok : x_ok (x_k D cA ad)) {stp : Nat → Nat → Int32} {psz : Int32} {gk : Nat → Nat → Int32} {gl : Nat → Nat → Int64} {gh : Nat → Nat → Int64} {opn : Nat → Int32} {cki : Nat → Int32} {ckl : Nat → Int64} {mp : Nat → Nat → Int64} {rk : Nat → Int32} {rv : Nat → Int64} {ri : Nat → Int32} {chk : Int32} {mo : Nat → Nat → Int32} {mi : Nat → Int32} {ml : Nat → Int64} {mk : Nat → Int32} {mlo : Nat → Int64} {mhi : Nat → Int64} {pk : Nat → Int32} {ps : Nat → Int32} {pl : Nat → Int64} {ph : Nat → Int64} {mm : Nat → Int64} {out : Nat → Int64} (i : Nat) (hi : i < 25) (a1 : Int32) (h1 : vp_in a1 12) : x_M l y_Gs_clear (Cond.code y_Gs_clear b_Gs_clear 2 (Option.none : Option Jvm.ClassFile.FieldType) :: x_Wd) { frames := 1, cells := 0, slots := 0, locals := 26 } (x_k D cA ad) (x_F ad cA) [(.ref (ad (5, i))), (.int a1)] ((stp, psz, gk, gl, gh, opn, cki, ckl, mp, rk, rv, ri, chk), (mo, mi, ml, mk, mlo, mhi, pk, ps, pl, ph, mm), out) ((fun q : (Nat → Nat → Int32) × (Nat → Nat → Int64) × (Nat → Nat → Int64) => ((none, ((stp, psz, q.1, q.2.1, q.2.2, opn, cki, ckl, mp, rk, rv, ri, chk), (mo, mi, ml, mk, mlo, mhi, pk, ps, pl, ph, mm), out)) : Option Value × x_S)) (s_Gs_clear gk gl gh i a1)) 0 0 := by
  refine x_start (κ := x_k D cA ad) (cc := b_Gs_clear) (F := x_F ad cA) (wr := (fun q : (Nat → Nat → Int32) × (Nat → Nat → Int64) × (Nat → Nat → Int64) => ((none, ((stp, psz, q.1, q.2.1, q.2.2, opn, cki, ckl, mp, rk, rv, ri, chk), (mo, mi, ml, mk, mlo, mhi, pk, ps, pl, ph, mm), out)) : Option Value × x_S))) (q := s_Gs_clear gk gl gh i a1) (ret := (Option.none : Option Jvm.ClassFile.FieldType)) (lv0 := [(0, (.ref (ad (5, i)))), (1, (.int a1))]) ok (by decide) rfl (Nat.le_of_ble_eq_true rfl) rfl ?_
  intro p e s m below meth c C hr hlk
  unfold s_Gs_clear
  refine x_aload_n 0 C d_Gs_clear_0 rfl rfl ?_
  refine x_iload_n 1 C d_Gs_clear_1 rfl rfl ?_
  refine x_iconst (v := 0) C d_Gs_clear_2 (by decide) ?_
  refine x_lconst (v := 0) C d_Gs_clear_3 (by decide) ?_
  refine x_lconst (v := 0) C d_Gs_clear_4 (by decide) ?_
  refine x_cv0 (i := (5, i)) (F := x_F ad cA) (As := [(.int a1), (.int 0), (.long 0), (.long 0)]) (rest := []) C k_Gs_set q_415 (c_Gs_set ok i hi a1 0 0 0 h1) rfl rfl rfl (Nat.le_of_ble_eq_true rfl) (Nat.le_of_ble_eq_true rfl) (m_5 hi) rfl rfl rfl rfl rfl (Nat.le_of_ble_eq_true rfl) d_Gs_clear_5 ⟨Nat.zero_le _, Nat.zero_le _⟩ ?_
  generalize hq1 : s_Gs_set gk gl gh i a1 0 0 0 = q1
  obtain ⟨gk1, gl1, gh1⟩ := q1
  refine x_lets ?_
  dsimp only
  exact x_vret C hr hlk rfl d_Gs_clear_8
def s_Gs_copy (gk : Nat → Nat → Int32) (gl : Nat → Nat → Int64) (gh : Nat → Nat → Int64) (i : Nat) (a1 : Int32) (a2 : Int32) : (Nat → Nat → Int32) × (Nat → Nat → Int64) × (Nat → Nat → Int64) :=
  (x_let (s_Gs_set gk gl gh i a1 (gk i a2.toNatClampNeg) (gl i a2.toNatClampNeg) (gh i a2.toNatClampNeg)) fun (gk1, gl1, gh1) => (gk1, gl1, gh1))
set_option maxHeartbeats 4000000 in
set_option maxRecDepth 100000 in
theorem c_Gs_copy {l : Launch} {D : va_G} {cA : Nat → ClassId} {ad : x_I → Nat} (ok : x_ok (x_k D cA ad)) {stp : Nat → Nat → Int32} {psz : Int32} {gk : Nat → Nat → Int32} {gl : Nat → Nat → Int64} {gh : Nat → Nat → Int64} {opn : Nat → Int32} {cki : Nat → Int32} {ckl : Nat → Int64} {mp : Nat → Nat → Int64} {rk : Nat → Int32} {rv : Nat → Int64} {ri : Nat → Int32} {chk : Int32} {mo : Nat → Nat → Int32} {mi : Nat → Int32} {ml : Nat → Int64} {mk : Nat → Int32} {mlo : Nat → Int64} {mhi : Nat → Int64} {pk : Nat → Int32} {ps : Nat → Int32} {pl : Nat → Int64} {ph : Nat → Int64} {mm : Nat → Int64} {out : Nat → Int64} (i : Nat) (hi : i < 25) (a1 : Int32) (a2 : Int32) (h1 : vp_in a1 12) (h2 : vp_in a2 12) : x_M l y_Gs_copy (Cond.code y_Gs_copy b_Gs_copy 3 (Option.none : Option Jvm.ClassFile.FieldType) :: x_Wd) { frames := 1, cells := 0, slots := 0, locals := 26 } (x_k D cA ad) (x_F ad cA) [(.ref (ad (5, i))), (.int a1), (.int a2)] ((stp, psz, gk, gl, gh, opn, cki, ckl, mp, rk, rv, ri, chk), (mo, mi, ml, mk, mlo, mhi, pk, ps, pl, ph, mm), out) ((fun q : (Nat → Nat → Int32) × (Nat → Nat → Int64) × (Nat → Nat → Int64) => ((none, ((stp, psz, q.1, q.2.1, q.2.2, opn, cki, ckl, mp, rk, rv, ri, chk), (mo, mi, ml, mk, mlo, mhi, pk, ps, pl, ph, mm), out)) : Option Value × x_S)) (s_Gs_copy gk gl gh i a1 a2)) 0 0 := by
  refine x_start (κ := x_k D cA ad) (cc := b_Gs_copy) (F := x_F ad cA) (wr := (fun q : (Nat → Nat → Int32) × (Nat → Nat → Int64) × (Nat → Nat → Int64) => ((none, ((stp, psz, q.1, q.2.1, q.2.2, opn, cki, ckl, mp, rk, rv, ri, chk), (mo, mi, ml, mk, mlo, mhi, pk, ps, pl, ph, mm), out)) : Option Value × x_S))) (q := s_Gs_copy gk gl gh i a1 a2) (ret := (Option.none : Option Jvm.ClassFile.FieldType)) (lv0 := [(0, (.ref (ad (5, i)))), (1, (.int a1)), (2, (.int a2))]) ok (by decide) rfl (Nat.le_of_ble_eq_true rfl) rfl ?_
  intro p e s m below meth c C hr hlk
  unfold s_Gs_copy
  refine x_aload_n 0 C d_Gs_copy_0 rfl rfl ?_
  refine x_iload_n 1 C d_Gs_copy_1 rfl rfl ?_
  refine x_aload_n 0 C d_Gs_copy_2 rfl rfl ?_
  refine x_get (i := (5, i)) (v := (.ref (ad (6, i)))) 0 C (m_5 hi) rfl rfl i_Gs (by decide) (List.mem_cons_of_mem _ q_98) rfl d_Gs_copy_3 ?_
  refine x_iload_n 2 C d_Gs_copy_6 rfl rfl ?_
  refine x_iald (i := (6, i)) (g := gk i) 0 C (m_6 hi) rfl rfl h2 d_Gs_copy_7 ?_
  refine x_aload_n 0 C d_Gs_copy_8 rfl rfl ?_
  refine x_get (i := (5, i)) (v := (.ref (ad (7, i)))) 1 C (m_5 hi) rfl rfl i_Gs (by decide) (List.mem_cons_of_mem _ q_99) rfl d_Gs_copy_9 ?_
  refine x_iload_n 2 C d_Gs_copy_12 rfl rfl ?_
  refine x_lald (i := (7, i)) (g := gl i) 1 C (m_7 hi) rfl rfl h2 d_Gs_copy_13 ?_
  refine x_aload_n 0 C d_Gs_copy_14 rfl rfl ?_
  refine x_get (i := (5, i)) (v := (.ref (ad (8, i)))) 2 C (m_5 hi) rfl rfl i_Gs (by decide) (List.mem_cons_of_mem _ q_100) rfl d_Gs_copy_15 ?_
  refine x_iload_n 2 C d_Gs_copy_18 rfl rfl ?_
  refine x_lald (i := (8, i)) (g := gh i) 1 C (m_8 hi) rfl rfl h2 d_Gs_copy_19 ?_
  refine x_cv0 (i := (5, i)) (F := x_F ad cA) (As := [(.int a1), (.int (gk i a2.toNatClampNeg)), (.long (gl i a2.toNatClampNeg)), (.long (gh i a2.toNatClampNeg))]) (rest := []) C k_Gs_set q_415 (c_Gs_set ok i hi a1 (gk i a2.toNatClampNeg) (gl i a2.toNatClampNeg) (gh i a2.toNatClampNeg) h1) rfl rfl rfl (Nat.le_of_ble_eq_true rfl) (Nat.le_of_ble_eq_true rfl) (m_5 hi) rfl rfl rfl rfl rfl (Nat.le_of_ble_eq_true rfl) d_Gs_copy_20 ⟨Nat.zero_le _, Nat.zero_le _⟩ ?_
  generalize hq1 : s_Gs_set gk gl gh i a1 (gk i a2.toNatClampNeg) (gl i a2.toNatClampNeg) (gh i a2.toNatClampNeg) = q1
  obtain ⟨gk1, gl1, gh1⟩ := q1
  refine x_lets ?_
  dsimp only
  exact x_vret C hr hlk rfl d_Gs_copy_23
def s_Gs_widen (gk : Nat → Nat → Int32) (gl : Nat → Nat → Int64) (gh : Nat → Nat → Int64) (i : Nat) (a1 : Int32) (a2 : Int64) (a3 : Int64) : (Nat → Nat → Int32) × (Nat → Nat → Int64) × (Nat → Nat → Int64) :=
  (x_let (s_Gs_set gk gl gh i a1 1 (if a2 < (gl i a1.toNatClampNeg) then a2 else gl i a1.toNatClampNeg) (if a3 < (gh i a1.toNatClampNeg) then gh i a1.toNatClampNeg else a3)) fun (gk1, gl1, gh1) => (gk1, gl1, gh1))
set_option maxHeartbeats 4000000 in
set_option maxRecDepth 100000 in
theorem c_Gs_widen {l : Launch} {D : va_G} {cA : Nat → ClassId} {ad : x_I → Nat} (ok : x_ok (x_k D cA ad)) {stp : Nat → Nat → Int32} {psz : Int32} {gk : Nat → Nat → Int32} {gl : Nat → Nat → Int64} {gh : Nat → Nat → Int64} {opn : Nat → Int32} {cki : Nat → Int32} {ckl : Nat → Int64} {mp : Nat → Nat → Int64} {rk : Nat → Int32} {rv : Nat → Int64} {ri : Nat → Int32} {chk : Int32} {mo : Nat → Nat → Int32} {mi : Nat → Int32} {ml : Nat → Int64} {mk : Nat → Int32} {mlo : Nat → Int64} {mhi : Nat → Int64} {pk : Nat → Int32} {ps : Nat → Int32} {pl : Nat → Int64} {ph : Nat → Int64} {mm : Nat → Int64} {out : Nat → Int64} (i : Nat) (hi : i < 25) (a1 : Int32) (a2 : Int64) (a3 : Int64) (h1 : vp_in a1 12) : x_M l y_Gs_widen (Cond.code y_Gs_widen b_Gs_widen 6 (Option.none : Option Jvm.ClassFile.FieldType) :: x_Wd) { frames := 1, cells := 0, slots := 0, locals := 26 } (x_k D cA ad) (x_F ad cA) [(.ref (ad (5, i))), (.int a1), (.long a2), (.long a3)] ((stp, psz, gk, gl, gh, opn, cki, ckl, mp, rk, rv, ri, chk), (mo, mi, ml, mk, mlo, mhi, pk, ps, pl, ph, mm), out) ((fun q : (Nat → Nat → Int32) × (Nat → Nat → Int64) × (Nat → Nat → Int64) => ((none, ((stp, psz, q.1, q.2.1, q.2.2, opn, cki, ckl, mp, rk, rv, ri, chk), (mo, mi, ml, mk, mlo, mhi, pk, ps, pl, ph, mm), out)) : Option Value × x_S)) (s_Gs_widen gk gl gh i a1 a2 a3)) 0 0 := by
  refine x_start (κ := x_k D cA ad) (cc := b_Gs_widen) (F := x_F ad cA) (wr := (fun q : (Nat → Nat → Int32) × (Nat → Nat → Int64) × (Nat → Nat → Int64) => ((none, ((stp, psz, q.1, q.2.1, q.2.2, opn, cki, ckl, mp, rk, rv, ri, chk), (mo, mi, ml, mk, mlo, mhi, pk, ps, pl, ph, mm), out)) : Option Value × x_S))) (q := s_Gs_widen gk gl gh i a1 a2 a3) (ret := (Option.none : Option Jvm.ClassFile.FieldType)) (lv0 := [(0, (.ref (ad (5, i)))), (1, (.int a1)), (2, (.long a2)), (4, (.long a3))]) ok (by decide) rfl (Nat.le_of_ble_eq_true rfl) rfl ?_
  intro p e s m below meth c C hr hlk
  unfold s_Gs_widen
  refine x_aload_n 0 C d_Gs_widen_0 rfl rfl ?_
  refine x_iload_n 1 C d_Gs_widen_1 rfl rfl ?_
  refine x_iconst (v := 1) C d_Gs_widen_2 (by decide) ?_
  refine x_aload_n 0 C d_Gs_widen_3 rfl rfl ?_
  refine x_get (i := (5, i)) (v := (.ref (ad (7, i)))) 1 C (m_5 hi) rfl rfl i_Gs (by decide) (List.mem_cons_of_mem _ q_99) rfl d_Gs_widen_4 ?_
  refine x_iload_n 1 C d_Gs_widen_7 rfl rfl ?_
  refine x_lald (i := (7, i)) (g := gl i) 1 C (m_7 hi) rfl rfl h1 d_Gs_widen_8 ?_
  refine x_lload_n 2 C d_Gs_widen_9 rfl rfl ?_
  refine x_minl C (List.mem_cons_of_mem _ q_635) (List.mem_cons_of_mem _ q_548) (List.mem_cons_of_mem _ q_16) (List.mem_cons_of_mem _ q_549) (Nat.le_of_ble_eq_true rfl) (Nat.le_of_ble_eq_true rfl) (Nat.zero_le _) (Nat.zero_le _) d_Gs_widen_10 ?_
  refine x_aload_n 0 C d_Gs_widen_13 rfl rfl ?_
  refine x_get (i := (5, i)) (v := (.ref (ad (8, i)))) 2 C (m_5 hi) rfl rfl i_Gs (by decide) (List.mem_cons_of_mem _ q_100) rfl d_Gs_widen_14 ?_
  refine x_iload_n 1 C d_Gs_widen_17 rfl rfl ?_
  refine x_lald (i := (8, i)) (g := gh i) 1 C (m_8 hi) rfl rfl h1 d_Gs_widen_18 ?_
  refine x_lload 3 C d_Gs_widen_19 rfl ?_
  refine x_maxl C (List.mem_cons_of_mem _ q_636) (List.mem_cons_of_mem _ q_551) (List.mem_cons_of_mem _ q_16) (List.mem_cons_of_mem _ q_552) (Nat.le_of_ble_eq_true rfl) (Nat.le_of_ble_eq_true rfl) (Nat.zero_le _) (Nat.zero_le _) d_Gs_widen_21 ?_
  refine x_cv0 (i := (5, i)) (F := x_F ad cA) (As := [(.int a1), (.int 1), (.long (if a2 < (gl i a1.toNatClampNeg) then a2 else gl i a1.toNatClampNeg)), (.long (if a3 < (gh i a1.toNatClampNeg) then gh i a1.toNatClampNeg else a3))]) (rest := []) C k_Gs_set q_415 (c_Gs_set ok i hi a1 1 (if a2 < (gl i a1.toNatClampNeg) then a2 else gl i a1.toNatClampNeg) (if a3 < (gh i a1.toNatClampNeg) then gh i a1.toNatClampNeg else a3) h1) rfl rfl rfl (Nat.le_of_ble_eq_true rfl) (Nat.le_of_ble_eq_true rfl) (m_5 hi) rfl rfl rfl rfl rfl (Nat.le_of_ble_eq_true rfl) d_Gs_widen_24 ⟨Nat.zero_le _, Nat.zero_le _⟩ ?_
  generalize hq1 : s_Gs_set gk gl gh i a1 1 (if a2 < (gl i a1.toNatClampNeg) then a2 else gl i a1.toNatClampNeg) (if a3 < (gh i a1.toNatClampNeg) then gh i a1.toNatClampNeg else a3) = q1
  obtain ⟨gk1, gl1, gh1⟩ := q1
  refine x_lets ?_
  dsimp only
  exact x_vret C hr hlk rfl d_Gs_widen_27
def s_Gs_setBetween (gk : Nat → Nat → Int32) (gl : Nat → Nat → Int64) (gh : Nat → Nat → Int64) (i : Nat) (a1 : Int32) (a2 : Int64) (a3 : Int64) : (Nat → Nat → Int32) × (Nat → Nat → Int64) × (Nat → Nat → Int64) :=
  (x_let (s_Gs_set gk gl gh i a1 1 (if a3 < a2 then a3 else a2) (if a3 < a2 then a2 else a3)) fun (gk1, gl1, gh1) => (gk1, gl1, gh1))
set_option maxHeartbeats 4000000 in
set_option maxRecDepth 100000 in
theorem c_Gs_setBetween {l : Launch} {D : va_G} {cA : Nat → ClassId} {ad : x_I → Nat} (ok : x_ok (x_k D cA ad)) {stp : Nat → Nat → Int32} {psz : Int32} {gk : Nat → Nat → Int32} {gl : Nat → Nat → Int64} {gh : Nat → Nat → Int64} {opn : Nat → Int32} {cki : Nat → Int32} {ckl : Nat → Int64} {mp : Nat → Nat → Int64} {rk : Nat → Int32} {rv : Nat → Int64} {ri : Nat → Int32} {chk : Int32} {mo : Nat → Nat → Int32} {mi : Nat → Int32} {ml : Nat → Int64} {mk : Nat → Int32} {mlo : Nat → Int64} {mhi : Nat → Int64} {pk : Nat → Int32} {ps : Nat → Int32} {pl : Nat → Int64} {ph : Nat → Int64} {mm : Nat → Int64} {out : Nat → Int64} (i : Nat) (hi : i < 25) (a1 : Int32) (a2 : Int64) (a3 : Int64) (h1 : vp_in a1 12) : x_M l y_Gs_setBetween (Cond.code y_Gs_setBetween b_Gs_setBetween 6 (Option.none : Option Jvm.ClassFile.FieldType) :: x_Wd) { frames := 1, cells := 0, slots := 0, locals := 26 } (x_k D cA ad) (x_F ad cA) [(.ref (ad (5, i))), (.int a1), (.long a2), (.long a3)] ((stp, psz, gk, gl, gh, opn, cki, ckl, mp, rk, rv, ri, chk), (mo, mi, ml, mk, mlo, mhi, pk, ps, pl, ph, mm), out) ((fun q : (Nat → Nat → Int32) × (Nat → Nat → Int64) × (Nat → Nat → Int64) => ((none, ((stp, psz, q.1, q.2.1, q.2.2, opn, cki, ckl, mp, rk, rv, ri, chk), (mo, mi, ml, mk, mlo, mhi, pk, ps, pl, ph, mm), out)) : Option Value × x_S)) (s_Gs_setBetween gk gl gh i a1 a2 a3)) 0 0 := by
  refine x_start (κ := x_k D cA ad) (cc := b_Gs_setBetween) (F := x_F ad cA) (wr := (fun q : (Nat → Nat → Int32) × (Nat → Nat → Int64) × (Nat → Nat → Int64) => ((none, ((stp, psz, q.1, q.2.1, q.2.2, opn, cki, ckl, mp, rk, rv, ri, chk), (mo, mi, ml, mk, mlo, mhi, pk, ps, pl, ph, mm), out)) : Option Value × x_S))) (q := s_Gs_setBetween gk gl gh i a1 a2 a3) (ret := (Option.none : Option Jvm.ClassFile.FieldType)) (lv0 := [(0, (.ref (ad (5, i)))), (1, (.int a1)), (2, (.long a2)), (4, (.long a3))]) ok (by decide) rfl (Nat.le_of_ble_eq_true rfl) rfl ?_
  intro p e s m below meth c C hr hlk
  unfold s_Gs_setBetween
  refine x_aload_n 0 C d_Gs_setBetween_0 rfl rfl ?_
  refine x_iload_n 1 C d_Gs_setBetween_1 rfl rfl ?_
  refine x_iconst (v := 1) C d_Gs_setBetween_2 (by decide) ?_
  refine x_lload_n 2 C d_Gs_setBetween_3 rfl rfl ?_
  refine x_lload 3 C d_Gs_setBetween_4 rfl ?_
  refine x_minl C (List.mem_cons_of_mem _ q_635) (List.mem_cons_of_mem _ q_548) (List.mem_cons_of_mem _ q_16) (List.mem_cons_of_mem _ q_549) (Nat.le_of_ble_eq_true rfl) (Nat.le_of_ble_eq_true rfl) (Nat.zero_le _) (Nat.zero_le _) d_Gs_setBetween_6 ?_
  refine x_lload_n 2 C d_Gs_setBetween_9 rfl rfl ?_
  refine x_lload 3 C d_Gs_setBetween_10 rfl ?_
  refine x_maxl C (List.mem_cons_of_mem _ q_636) (List.mem_cons_of_mem _ q_551) (List.mem_cons_of_mem _ q_16) (List.mem_cons_of_mem _ q_552) (Nat.le_of_ble_eq_true rfl) (Nat.le_of_ble_eq_true rfl) (Nat.zero_le _) (Nat.zero_le _) d_Gs_setBetween_12 ?_
  refine x_cv0 (i := (5, i)) (F := x_F ad cA) (As := [(.int a1), (.int 1), (.long (if a3 < a2 then a3 else a2)), (.long (if a3 < a2 then a2 else a3))]) (rest := []) C k_Gs_set q_415 (c_Gs_set ok i hi a1 1 (if a3 < a2 then a3 else a2) (if a3 < a2 then a2 else a3) h1) rfl rfl rfl (Nat.le_of_ble_eq_true rfl) (Nat.le_of_ble_eq_true rfl) (m_5 hi) rfl rfl rfl rfl rfl (Nat.le_of_ble_eq_true rfl) d_Gs_setBetween_15 ⟨Nat.zero_le _, Nat.zero_le _⟩ ?_
  generalize hq1 : s_Gs_set gk gl gh i a1 1 (if a3 < a2 then a3 else a2) (if a3 < a2 then a2 else a3) = q1
  obtain ⟨gk1, gl1, gh1⟩ := q1
  refine x_lets ?_
  dsimp only
  exact x_vret C hr hlk rfl d_Gs_setBetween_18
def s_St_isCallOf (stp : Nat → Nat → Int32) (j : Nat) (a1 : Int32) : Int32 :=
  (if (stp j 0) = 16 then (if (stp j 3) = a1 then (1) else (0)) else (0))
set_option maxHeartbeats 4000000 in
set_option maxRecDepth 100000 in
theorem c_St_isCallOf {l : Launch} {D : va_G} {cA : Nat → ClassId} {ad : x_I → Nat} (ok : x_ok (x_k D cA ad)) {stp : Nat → Nat → Int32} {psz : Int32} {gk : Nat → Nat → Int32} {gl : Nat → Nat → Int64} {gh : Nat → Nat → Int64} {opn : Nat → Int32} {cki : Nat → Int32} {ckl : Nat → Int64} {mp : Nat → Nat → Int64} {rk : Nat → Int32} {rv : Nat → Int64} {ri : Nat → Int32} {chk : Int32} {mo : Nat → Nat → Int32} {mi : Nat → Int32} {ml : Nat → Int64} {mk : Nat → Int32} {mlo : Nat → Int64} {mhi : Nat → Int64} {pk : Nat → Int32} {ps : Nat → Int32} {pl : Nat → Int64} {ph : Nat → Int64} {mm : Nat → Int64} {out : Nat → Int64} (j : Nat) (hj : j < 24) (a1 : Int32) : x_M l y_St_isCallOf (Cond.code y_St_isCallOf b_St_isCallOf 2 (Option.some Jvm.ClassFile.FieldType.boolean) :: x_Wd) { frames := 0, cells := 0, slots := 0, locals := 0 } (x_k D cA ad) (x_F ad cA) [(.ref (ad (3, j))), (.int a1)] ((stp, psz, gk, gl, gh, opn, cki, ckl, mp, rk, rv, ri, chk), (mo, mi, ml, mk, mlo, mhi, pk, ps, pl, ph, mm), out) ((fun q : Int32 => ((some (.int (q)), ((stp, psz, gk, gl, gh, opn, cki, ckl, mp, rk, rv, ri, chk), (mo, mi, ml, mk, mlo, mhi, pk, ps, pl, ph, mm), out)) : Option Value × x_S)) (s_St_isCallOf stp j a1)) 0 0 := by
  refine x_start (κ := x_k D cA ad) (cc := b_St_isCallOf) (F := x_F ad cA) (wr := (fun q : Int32 => ((some (.int (q)), ((stp, psz, gk, gl, gh, opn, cki, ckl, mp, rk, rv, ri, chk), (mo, mi, ml, mk, mlo, mhi, pk, ps, pl, ph, mm), out)) : Option Value × x_S))) (q := s_St_isCallOf stp j a1) (ret := (Option.some Jvm.ClassFile.FieldType.boolean)) (lv0 := [(0, (.ref (ad (3, j)))), (1, (.int a1))]) ok (by decide) rfl (Nat.le_of_ble_eq_true rfl) rfl ?_
  intro p e s m below meth c C hr hlk
  unfold s_St_isCallOf
  refine x_aload_n 0 C d_St_isCallOf_0 rfl rfl ?_
  refine x_get (i := (3, j)) (v := (.int (stp j 0))) 0 C (m_3 hj) rfl rfl i_St (by decide) (List.mem_cons_of_mem _ q_41) rfl d_St_isCallOf_1 ?_
  refine x_bipush (v := 16) C d_St_isCallOf_4 (by decide) ?_
  refine x_icmp_ne 21 C d_St_isCallOf_6 (by decide) (fun z1 => ?_) (fun z1 => ?_)
  · refine x_aload_n 0 C d_St_isCallOf_9 rfl rfl ?_
    refine x_get (i := (3, j)) (v := (.int (stp j 3))) 3 C (m_3 hj) rfl rfl i_St (by decide) (List.mem_cons_of_mem _ q_58) rfl d_St_isCallOf_10 ?_
    refine x_iload_n 1 C d_St_isCallOf_13 rfl rfl ?_
    refine x_icmp_ne 21 C d_St_isCallOf_14 (by decide) (fun z2 => ?_) (fun z2 => ?_)
    · refine x_iconst (v := 1) C d_St_isCallOf_17 (by decide) ?_
      refine x_goto 22 C d_St_isCallOf_18 (by decide) ?_
      exact x_zret C hr hlk rfl rfl d_St_isCallOf_22
    · refine x_iconst (v := 0) C d_St_isCallOf_21 (by decide) ?_
      exact x_zret C hr hlk rfl rfl d_St_isCallOf_22
  · refine x_iconst (v := 0) C d_St_isCallOf_21 (by decide) ?_
    exact x_zret C hr hlk rfl rfl d_St_isCallOf_22
def s_St_mayJump (stp : Nat → Nat → Int32) (j : Nat) : Int32 :=
  (if (stp j 0) < 10 then (0) else (if 13 < (stp j 0) then (0) else (1)))
set_option maxHeartbeats 4000000 in
set_option maxRecDepth 100000 in
theorem c_St_mayJump {l : Launch} {D : va_G} {cA : Nat → ClassId} {ad : x_I → Nat} (ok : x_ok (x_k D cA ad)) {stp : Nat → Nat → Int32} {psz : Int32} {gk : Nat → Nat → Int32} {gl : Nat → Nat → Int64} {gh : Nat → Nat → Int64} {opn : Nat → Int32} {cki : Nat → Int32} {ckl : Nat → Int64} {mp : Nat → Nat → Int64} {rk : Nat → Int32} {rv : Nat → Int64} {ri : Nat → Int32} {chk : Int32} {mo : Nat → Nat → Int32} {mi : Nat → Int32} {ml : Nat → Int64} {mk : Nat → Int32} {mlo : Nat → Int64} {mhi : Nat → Int64} {pk : Nat → Int32} {ps : Nat → Int32} {pl : Nat → Int64} {ph : Nat → Int64} {mm : Nat → Int64} {out : Nat → Int64} (j : Nat) (hj : j < 24) : x_M l y_St_mayJump (Cond.code y_St_mayJump b_St_mayJump 1 (Option.some Jvm.ClassFile.FieldType.boolean) :: x_Wd) { frames := 0, cells := 0, slots := 0, locals := 0 } (x_k D cA ad) (x_F ad cA) [(.ref (ad (3, j)))] ((stp, psz, gk, gl, gh, opn, cki, ckl, mp, rk, rv, ri, chk), (mo, mi, ml, mk, mlo, mhi, pk, ps, pl, ph, mm), out) ((fun q : Int32 => ((some (.int (q)), ((stp, psz, gk, gl, gh, opn, cki, ckl, mp, rk, rv, ri, chk), (mo, mi, ml, mk, mlo, mhi, pk, ps, pl, ph, mm), out)) : Option Value × x_S)) (s_St_mayJump stp j)) 0 0 := by
  refine x_start (κ := x_k D cA ad) (cc := b_St_mayJump) (F := x_F ad cA) (wr := (fun q : Int32 => ((some (.int (q)), ((stp, psz, gk, gl, gh, opn, cki, ckl, mp, rk, rv, ri, chk), (mo, mi, ml, mk, mlo, mhi, pk, ps, pl, ph, mm), out)) : Option Value × x_S))) (q := s_St_mayJump stp j) (ret := (Option.some Jvm.ClassFile.FieldType.boolean)) (lv0 := [(0, (.ref (ad (3, j))))]) ok (by decide) rfl (Nat.le_of_ble_eq_true rfl) rfl ?_
  intro p e s m below meth c C hr hlk
  unfold s_St_mayJump
  refine x_aload_n 0 C d_St_mayJump_0 rfl rfl ?_
  refine x_get (i := (3, j)) (v := (.int (stp j 0))) 0 C (m_3 hj) rfl rfl i_St (by decide) (List.mem_cons_of_mem _ q_41) rfl d_St_mayJump_1 ?_
  refine x_bipush (v := 10) C d_St_mayJump_4 (by decide) ?_
  refine x_icmp_lt 22 C d_St_mayJump_6 (by decide) (fun z1 => ?_) (fun z1 => ?_)
  · refine x_iconst (v := 0) C d_St_mayJump_22 (by decide) ?_
    exact x_zret C hr hlk rfl rfl d_St_mayJump_23
  · refine x_aload_n 0 C d_St_mayJump_9 rfl rfl ?_
    refine x_get (i := (3, j)) (v := (.int (stp j 0))) 0 C (m_3 hj) rfl rfl i_St (by decide) (List.mem_cons_of_mem _ q_41) rfl d_St_mayJump_10 ?_
    refine x_bipush (v := 13) C d_St_mayJump_13 (by decide) ?_
    refine x_icmp_gt 22 C d_St_mayJump_15 (by decide) (fun z2 => ?_) (fun z2 => ?_)
    · refine x_iconst (v := 0) C d_St_mayJump_22 (by decide) ?_
      exact x_zret C hr hlk rfl rfl d_St_mayJump_23
    · refine x_iconst (v := 1) C d_St_mayJump_18 (by decide) ?_
      refine x_goto 23 C d_St_mayJump_19 (by decide) ?_
      exact x_zret C hr hlk rfl rfl d_St_mayJump_23
def s_St_usesD (stp : Nat → Nat → Int32) (j : Nat) : Int32 :=
  (if (stp j 0) < 2 then (if (stp j 0) = 15 then (1) else (0)) else (if (stp j 0) ≤ 12 then (1) else (if (stp j 0) = 15 then (1) else (0))))
set_option maxHeartbeats 4000000 in
set_option maxRecDepth 100000 in
theorem c_St_usesD {l : Launch} {D : va_G} {cA : Nat → ClassId} {ad : x_I → Nat} (ok : x_ok (x_k D cA ad)) {stp : Nat → Nat → Int32} {psz : Int32} {gk : Nat → Nat → Int32} {gl : Nat → Nat → Int64} {gh : Nat → Nat → Int64} {opn : Nat → Int32} {cki : Nat → Int32} {ckl : Nat → Int64} {mp : Nat → Nat → Int64} {rk : Nat → Int32} {rv : Nat → Int64} {ri : Nat → Int32} {chk : Int32} {mo : Nat → Nat → Int32} {mi : Nat → Int32} {ml : Nat → Int64} {mk : Nat → Int32} {mlo : Nat → Int64} {mhi : Nat → Int64} {pk : Nat → Int32} {ps : Nat → Int32} {pl : Nat → Int64} {ph : Nat → Int64} {mm : Nat → Int64} {out : Nat → Int64} (j : Nat) (hj : j < 24) : x_M l y_St_usesD (Cond.code y_St_usesD b_St_usesD 1 (Option.some Jvm.ClassFile.FieldType.boolean) :: x_Wd) { frames := 0, cells := 0, slots := 0, locals := 0 } (x_k D cA ad) (x_F ad cA) [(.ref (ad (3, j)))] ((stp, psz, gk, gl, gh, opn, cki, ckl, mp, rk, rv, ri, chk), (mo, mi, ml, mk, mlo, mhi, pk, ps, pl, ph, mm), out) ((fun q : Int32 => ((some (.int (q)), ((stp, psz, gk, gl, gh, opn, cki, ckl, mp, rk, rv, ri, chk), (mo, mi, ml, mk, mlo, mhi, pk, ps, pl, ph, mm), out)) : Option Value × x_S)) (s_St_usesD stp j)) 0 0 := by
  refine x_start (κ := x_k D cA ad) (cc := b_St_usesD) (F := x_F ad cA) (wr := (fun q : Int32 => ((some (.int (q)), ((stp, psz, gk, gl, gh, opn, cki, ckl, mp, rk, rv, ri, chk), (mo, mi, ml, mk, mlo, mhi, pk, ps, pl, ph, mm), out)) : Option Value × x_S))) (q := s_St_usesD stp j) (ret := (Option.some Jvm.ClassFile.FieldType.boolean)) (lv0 := [(0, (.ref (ad (3, j))))]) ok (by decide) rfl (Nat.le_of_ble_eq_true rfl) rfl ?_
  intro p e s m below meth c C hr hlk
  unfold s_St_usesD
  refine x_aload_n 0 C d_St_usesD_0 rfl rfl ?_
  refine x_get (i := (3, j)) (v := (.int (stp j 0))) 0 C (m_3 hj) rfl rfl i_St (by decide) (List.mem_cons_of_mem _ q_41) rfl d_St_usesD_1 ?_
  refine x_iconst (v := 2) C d_St_usesD_4 (by decide) ?_
  refine x_icmp_lt 17 C d_St_usesD_5 (by decide) (fun z1 => ?_) (fun z1 => ?_)
  · refine x_aload_n 0 C d_St_usesD_17 rfl rfl ?_
    refine x_get (i := (3, j)) (v := (.int (stp j 0))) 0 C (m_3 hj) rfl rfl i_St (by decide) (List.mem_cons_of_mem _ q_41) rfl d_St_usesD_18 ?_
    refine x_bipush (v := 15) C d_St_usesD_21 (by decide) ?_
    refine x_icmp_ne 30 C d_St_usesD_23 (by decide) (fun z2 => ?_) (fun z2 => ?_)
    · refine x_iconst (v := 1) C d_St_usesD_26 (by decide) ?_
      refine x_goto 31 C d_St_usesD_27 (by decide) ?_
      exact x_zret C hr hlk rfl rfl d_St_usesD_31
    · refine x_iconst (v := 0) C d_St_usesD_30 (by decide) ?_
      exact x_zret C hr hlk rfl rfl d_St_usesD_31
  · refine x_aload_n 0 C d_St_usesD_8 rfl rfl ?_
    refine x_get (i := (3, j)) (v := (.int (stp j 0))) 0 C (m_3 hj) rfl rfl i_St (by decide) (List.mem_cons_of_mem _ q_41) rfl d_St_usesD_9 ?_
    refine x_bipush (v := 12) C d_St_usesD_12 (by decide) ?_
    refine x_icmp_le 26 C d_St_usesD_14 (by decide) (fun z3 => ?_) (fun z3 => ?_)
    · refine x_iconst (v := 1) C d_St_usesD_26 (by decide) ?_
      refine x_goto 31 C d_St_usesD_27 (by decide) ?_
      exact x_zret C hr hlk rfl rfl d_St_usesD_31
    · refine x_aload_n 0 C d_St_usesD_17 rfl rfl ?_
      refine x_get (i := (3, j)) (v := (.int (stp j 0))) 0 C (m_3 hj) rfl rfl i_St (by decide) (List.mem_cons_of_mem _ q_41) rfl d_St_usesD_18 ?_
      refine x_bipush (v := 15) C d_St_usesD_21 (by decide) ?_
      refine x_icmp_ne 30 C d_St_usesD_23 (by decide) (fun z4 => ?_) (fun z4 => ?_)
      · refine x_iconst (v := 1) C d_St_usesD_26 (by decide) ?_
        refine x_goto 31 C d_St_usesD_27 (by decide) ?_
        exact x_zret C hr hlk rfl rfl d_St_usesD_31
      · refine x_iconst (v := 0) C d_St_usesD_30 (by decide) ?_
        exact x_zret C hr hlk rfl rfl d_St_usesD_31
def s_St_usesS (stp : Nat → Nat → Int32) (j : Nat) : Int32 :=
  (if (stp j 0) = 1 then (1) else (if (stp j 0) = 3 then (1) else (if (stp j 0) = 4 then (1) else (if (stp j 0) = 12 then (1) else (if (stp j 0) = 14 then (1) else (if (stp j 0) = 15 then (1) else (0)))))))
set_option maxHeartbeats 4000000 in
set_option maxRecDepth 100000 in
theorem c_St_usesS {l : Launch} {D : va_G} {cA : Nat → ClassId} {ad : x_I → Nat} (ok : x_ok (x_k D cA ad)) {stp : Nat → Nat → Int32} {psz : Int32} {gk : Nat → Nat → Int32} {gl : Nat → Nat → Int64} {gh : Nat → Nat → Int64} {opn : Nat → Int32} {cki : Nat → Int32} {ckl : Nat → Int64} {mp : Nat → Nat → Int64} {rk : Nat → Int32} {rv : Nat → Int64} {ri : Nat → Int32} {chk : Int32} {mo : Nat → Nat → Int32} {mi : Nat → Int32} {ml : Nat → Int64} {mk : Nat → Int32} {mlo : Nat → Int64} {mhi : Nat → Int64} {pk : Nat → Int32} {ps : Nat → Int32} {pl : Nat → Int64} {ph : Nat → Int64} {mm : Nat → Int64} {out : Nat → Int64} (j : Nat) (hj : j < 24) : x_M l y_St_usesS (Cond.code y_St_usesS b_St_usesS 1 (Option.some Jvm.ClassFile.FieldType.boolean) :: x_Wd) { frames := 0, cells := 0, slots := 0, locals := 0 } (x_k D cA ad) (x_F ad cA) [(.ref (ad (3, j)))] ((stp, psz, gk, gl, gh, opn, cki, ckl, mp, rk, rv, ri, chk), (mo, mi, ml, mk, mlo, mhi, pk, ps, pl, ph, mm), out) ((fun q : Int32 => ((some (.int (q)), ((stp, psz, gk, gl, gh, opn, cki, ckl, mp, rk, rv, ri, chk), (mo, mi, ml, mk, mlo, mhi, pk, ps, pl, ph, mm), out)) : Option Value × x_S)) (s_St_usesS stp j)) 0 0 := by
  refine x_start (κ := x_k D cA ad) (cc := b_St_usesS) (F := x_F ad cA) (wr := (fun q : Int32 => ((some (.int (q)), ((stp, psz, gk, gl, gh, opn, cki, ckl, mp, rk, rv, ri, chk), (mo, mi, ml, mk, mlo, mhi, pk, ps, pl, ph, mm), out)) : Option Value × x_S))) (q := s_St_usesS stp j) (ret := (Option.some Jvm.ClassFile.FieldType.boolean)) (lv0 := [(0, (.ref (ad (3, j))))]) ok (by decide) rfl (Nat.le_of_ble_eq_true rfl) rfl ?_
  intro p e s m below meth c C hr hlk
  unfold s_St_usesS
  refine x_aload_n 0 C d_St_usesS_0 rfl rfl ?_
  refine x_get (i := (3, j)) (v := (.int (stp j 0))) 0 C (m_3 hj) rfl rfl i_St (by decide) (List.mem_cons_of_mem _ q_41) rfl d_St_usesS_1 ?_
  refine x_iconst (v := 1) C d_St_usesS_4 (by decide) ?_
  refine x_icmp_eq 51 C d_St_usesS_5 (by decide) (fun z1 => ?_) (fun z1 => ?_)
  · refine x_iconst (v := 1) C d_St_usesS_51 (by decide) ?_
    refine x_goto 56 C d_St_usesS_52 (by decide) ?_
    exact x_zret C hr hlk rfl rfl d_St_usesS_56
  · refine x_aload_n 0 C d_St_usesS_8 rfl rfl ?_
    refine x_get (i := (3, j)) (v := (.int (stp j 0))) 0 C (m_3 hj) rfl rfl i_St (by decide) (List.mem_cons_of_mem _ q_41) rfl d_St_usesS_9 ?_
    refine x_iconst (v := 3) C d_St_usesS_12 (by decide) ?_
    refine x_icmp_eq 51 C d_St_usesS_13 (by decide) (fun z2 => ?_) (fun z2 => ?_)
    · refine x_iconst (v := 1) C d_St_usesS_51 (by decide) ?_
      refine x_goto 56 C d_St_usesS_52 (by decide) ?_
      exact x_zret C hr hlk rfl rfl d_St_usesS_56
    · refine x_aload_n 0 C d_St_usesS_16 rfl rfl ?_
      refine x_get (i := (3, j)) (v := (.int (stp j 0))) 0 C (m_3 hj) rfl rfl i_St (by decide) (List.mem_cons_of_mem _ q_41) rfl d_St_usesS_17 ?_
      refine x_iconst (v := 4) C d_St_usesS_20 (by decide) ?_
      refine x_icmp_eq 51 C d_St_usesS_21 (by decide) (fun z3 => ?_) (fun z3 => ?_)
      · refine x_iconst (v := 1) C d_St_usesS_51 (by decide) ?_
        refine x_goto 56 C d_St_usesS_52 (by decide) ?_
        exact x_zret C hr hlk rfl rfl d_St_usesS_56
      · refine x_aload_n 0 C d_St_usesS_24 rfl rfl ?_
        refine x_get (i := (3, j)) (v := (.int (stp j 0))) 0 C (m_3 hj) rfl rfl i_St (by decide) (List.mem_cons_of_mem _ q_41) rfl d_St_usesS_25 ?_
        refine x_bipush (v := 12) C d_St_usesS_28 (by decide) ?_
        refine x_icmp_eq 51 C d_St_usesS_30 (by decide) (fun z4 => ?_) (fun z4 => ?_)
        · refine x_iconst (v := 1) C d_St_usesS_51 (by decide) ?_
          refine x_goto 56 C d_St_usesS_52 (by decide) ?_
          exact x_zret C hr hlk rfl rfl d_St_usesS_56
        · refine x_aload_n 0 C d_St_usesS_33 rfl rfl ?_
          refine x_get (i := (3, j)) (v := (.int (stp j 0))) 0 C (m_3 hj) rfl rfl i_St (by decide) (List.mem_cons_of_mem _ q_41) rfl d_St_usesS_34 ?_
          refine x_bipush (v := 14) C d_St_usesS_37 (by decide) ?_
          refine x_icmp_eq 51 C d_St_usesS_39 (by decide) (fun z5 => ?_) (fun z5 => ?_)
          · refine x_iconst (v := 1) C d_St_usesS_51 (by decide) ?_
            refine x_goto 56 C d_St_usesS_52 (by decide) ?_
            exact x_zret C hr hlk rfl rfl d_St_usesS_56
          · refine x_aload_n 0 C d_St_usesS_42 rfl rfl ?_
            refine x_get (i := (3, j)) (v := (.int (stp j 0))) 0 C (m_3 hj) rfl rfl i_St (by decide) (List.mem_cons_of_mem _ q_41) rfl d_St_usesS_43 ?_
            refine x_bipush (v := 15) C d_St_usesS_46 (by decide) ?_
            refine x_icmp_ne 55 C d_St_usesS_48 (by decide) (fun z6 => ?_) (fun z6 => ?_)
            · refine x_iconst (v := 1) C d_St_usesS_51 (by decide) ?_
              refine x_goto 56 C d_St_usesS_52 (by decide) ?_
              exact x_zret C hr hlk rfl rfl d_St_usesS_56
            · refine x_iconst (v := 0) C d_St_usesS_55 (by decide) ?_
              exact x_zret C hr hlk rfl rfl d_St_usesS_56
