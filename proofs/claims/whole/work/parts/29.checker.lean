def s_Ck_looked (cki : Nat → Int32)  : Int32 :=
  (cki 1)
set_option maxHeartbeats 4000000 in
set_option maxRecDepth 100000 in
theorem c_Ck_looked {l : Launch} {D : va_G} {cA : Nat → ClassId} {ad : x_I → Nat} (ok : x_ok (x_k D cA ad)) {stp : Nat → Nat → Int32} {psz : Int32} {gk : Nat → Nat → Int32} {gl : Nat → Nat → Int64} {gh : Nat → Nat → Int64} {opn : Nat → Int32} {cki : Nat → Int32} {ckl : Nat → Int64} {mp : Nat → Nat → Int64} {rk : Nat → Int32} {rv : Nat → Int64} {ri : Nat → Int32} {chk : Int32} {mo : Nat → Nat → Int32} {mi : Nat → Int32} {ml : Nat → Int64} {mk : Nat → Int32} {mlo : Nat → Int64} {mhi : Nat → Int64} {pk : Nat → Int32} {ps : Nat → Int32} {pl : Nat → Int64} {ph : Nat → Int64} {mm : Nat → Int64} {out : Nat → Int64}  : x_M l y_Ck_looked (Cond.code y_Ck_looked b_Ck_looked 1 (Option.some Jvm.ClassFile.FieldType.int) :: x_Wd) { frames := 0, cells := 0, slots := 0, locals := 0 } (x_k D cA ad) (x_F ad cA) [(.ref (ad (4, 0)))] ((stp, psz, gk, gl, gh, opn, cki, ckl, mp, rk, rv, ri, chk), (mo, mi, ml, mk, mlo, mhi, pk, ps, pl, ph, mm), out) ((fun q : Int32 => ((some (.int (q)), ((stp, psz, gk, gl, gh, opn, cki, ckl, mp, rk, rv, ri, chk), (mo, mi, ml, mk, mlo, mhi, pk, ps, pl, ph, mm), out)) : Option Value × x_S)) (s_Ck_looked cki)) 0 0 := by
  refine x_start (κ := x_k D cA ad) (cc := b_Ck_looked) (F := x_F ad cA) (wr := (fun q : Int32 => ((some (.int (q)), ((stp, psz, gk, gl, gh, opn, cki, ckl, mp, rk, rv, ri, chk), (mo, mi, ml, mk, mlo, mhi, pk, ps, pl, ph, mm), out)) : Option Value × x_S))) (q := s_Ck_looked cki) (ret := (Option.some Jvm.ClassFile.FieldType.int)) (lv0 := [(0, (.ref (ad (4, 0))))]) ok (by decide) rfl (Nat.le_of_ble_eq_true rfl) rfl ?_
  intro p e s m below meth c C hr hlk
  unfold s_Ck_looked
  refine x_aload_n 0 C d_Ck_looked_0 rfl rfl ?_
  refine x_get (i := (4, 0)) (v := (.int (cki 1))) 7 C m_4 rfl rfl i_Ck (by decide) (List.mem_cons_of_mem _ q_141) rfl d_Ck_looked_1 ?_
  exact x_iret C hr hlk rfl d_Ck_looked_4
def s_Ck_reason (cki : Nat → Int32)  : Int32 :=
  (cki 2)
set_option maxHeartbeats 4000000 in
set_option maxRecDepth 100000 in
theorem c_Ck_reason {l : Launch} {D : va_G} {cA : Nat → ClassId} {ad : x_I → Nat} (ok : x_ok (x_k D cA ad)) {stp : Nat → Nat → Int32} {psz : Int32} {gk : Nat → Nat → Int32} {gl : Nat → Nat → Int64} {gh : Nat → Nat → Int64} {opn : Nat → Int32} {cki : Nat → Int32} {ckl : Nat → Int64} {mp : Nat → Nat → Int64} {rk : Nat → Int32} {rv : Nat → Int64} {ri : Nat → Int32} {chk : Int32} {mo : Nat → Nat → Int32} {mi : Nat → Int32} {ml : Nat → Int64} {mk : Nat → Int32} {mlo : Nat → Int64} {mhi : Nat → Int64} {pk : Nat → Int32} {ps : Nat → Int32} {pl : Nat → Int64} {ph : Nat → Int64} {mm : Nat → Int64} {out : Nat → Int64}  : x_M l y_Ck_reason (Cond.code y_Ck_reason b_Ck_reason 1 (Option.some Jvm.ClassFile.FieldType.int) :: x_Wd) { frames := 0, cells := 0, slots := 0, locals := 0 } (x_k D cA ad) (x_F ad cA) [(.ref (ad (4, 0)))] ((stp, psz, gk, gl, gh, opn, cki, ckl, mp, rk, rv, ri, chk), (mo, mi, ml, mk, mlo, mhi, pk, ps, pl, ph, mm), out) ((fun q : Int32 => ((some (.int (q)), ((stp, psz, gk, gl, gh, opn, cki, ckl, mp, rk, rv, ri, chk), (mo, mi, ml, mk, mlo, mhi, pk, ps, pl, ph, mm), out)) : Option Value × x_S)) (s_Ck_reason cki)) 0 0 := by
  refine x_start (κ := x_k D cA ad) (cc := b_Ck_reason) (F := x_F ad cA) (wr := (fun q : Int32 => ((some (.int (q)), ((stp, psz, gk, gl, gh, opn, cki, ckl, mp, rk, rv, ri, chk), (mo, mi, ml, mk, mlo, mhi, pk, ps, pl, ph, mm), out)) : Option Value × x_S))) (q := s_Ck_reason cki) (ret := (Option.some Jvm.ClassFile.FieldType.int)) (lv0 := [(0, (.ref (ad (4, 0))))]) ok (by decide) rfl (Nat.le_of_ble_eq_true rfl) rfl ?_
  intro p e s m below meth c C hr hlk
  unfold s_Ck_reason
  refine x_aload_n 0 C d_Ck_reason_0 rfl rfl ?_
  refine x_get (i := (4, 0)) (v := (.int (cki 2))) 8 C m_4 rfl rfl i_Ck (by decide) (List.mem_cons_of_mem _ q_142) rfl d_Ck_reason_1 ?_
  exact x_iret C hr hlk rfl d_Ck_reason_4
def s_Ck_rejectedAt (cki : Nat → Int32)  : Int32 :=
  (cki 3)
set_option maxHeartbeats 4000000 in
set_option maxRecDepth 100000 in
theorem c_Ck_rejectedAt {l : Launch} {D : va_G} {cA : Nat → ClassId} {ad : x_I → Nat} (ok : x_ok (x_k D cA ad)) {stp : Nat → Nat → Int32} {psz : Int32} {gk : Nat → Nat → Int32} {gl : Nat → Nat → Int64} {gh : Nat → Nat → Int64} {opn : Nat → Int32} {cki : Nat → Int32} {ckl : Nat → Int64} {mp : Nat → Nat → Int64} {rk : Nat → Int32} {rv : Nat → Int64} {ri : Nat → Int32} {chk : Int32} {mo : Nat → Nat → Int32} {mi : Nat → Int32} {ml : Nat → Int64} {mk : Nat → Int32} {mlo : Nat → Int64} {mhi : Nat → Int64} {pk : Nat → Int32} {ps : Nat → Int32} {pl : Nat → Int64} {ph : Nat → Int64} {mm : Nat → Int64} {out : Nat → Int64}  : x_M l y_Ck_rejectedAt (Cond.code y_Ck_rejectedAt b_Ck_rejectedAt 1 (Option.some Jvm.ClassFile.FieldType.int) :: x_Wd) { frames := 0, cells := 0, slots := 0, locals := 0 } (x_k D cA ad) (x_F ad cA) [(.ref (ad (4, 0)))] ((stp, psz, gk, gl, gh, opn, cki, ckl, mp, rk, rv, ri, chk), (mo, mi, ml, mk, mlo, mhi, pk, ps, pl, ph, mm), out) ((fun q : Int32 => ((some (.int (q)), ((stp, psz, gk, gl, gh, opn, cki, ckl, mp, rk, rv, ri, chk), (mo, mi, ml, mk, mlo, mhi, pk, ps, pl, ph, mm), out)) : Option Value × x_S)) (s_Ck_rejectedAt cki)) 0 0 := by
  refine x_start (κ := x_k D cA ad) (cc := b_Ck_rejectedAt) (F := x_F ad cA) (wr := (fun q : Int32 => ((some (.int (q)), ((stp, psz, gk, gl, gh, opn, cki, ckl, mp, rk, rv, ri, chk), (mo, mi, ml, mk, mlo, mhi, pk, ps, pl, ph, mm), out)) : Option Value × x_S))) (q := s_Ck_rejectedAt cki) (ret := (Option.some Jvm.ClassFile.FieldType.int)) (lv0 := [(0, (.ref (ad (4, 0))))]) ok (by decide) rfl (Nat.le_of_ble_eq_true rfl) rfl ?_
  intro p e s m below meth c C hr hlk
  unfold s_Ck_rejectedAt
  refine x_aload_n 0 C d_Ck_rejectedAt_0 rfl rfl ?_
  refine x_get (i := (4, 0)) (v := (.int (cki 3))) 9 C m_4 rfl rfl i_Ck (by decide) (List.mem_cons_of_mem _ q_143) rfl d_Ck_rejectedAt_1 ?_
  exact x_iret C hr hlk rfl d_Ck_rejectedAt_4
def s_Ck_least (ckl : Nat → Int64)  : Int64 :=
  (ckl 0)
set_option maxHeartbeats 4000000 in
set_option maxRecDepth 100000 in
theorem c_Ck_least {l : Launch} {D : va_G} {cA : Nat → ClassId} {ad : x_I → Nat} (ok : x_ok (x_k D cA ad)) {stp : Nat → Nat → Int32} {psz : Int32} {gk : Nat → Nat → Int32} {gl : Nat → Nat → Int64} {gh : Nat → Nat → Int64} {opn : Nat → Int32} {cki : Nat → Int32} {ckl : Nat → Int64} {mp : Nat → Nat → Int64} {rk : Nat → Int32} {rv : Nat → Int64} {ri : Nat → Int32} {chk : Int32} {mo : Nat → Nat → Int32} {mi : Nat → Int32} {ml : Nat → Int64} {mk : Nat → Int32} {mlo : Nat → Int64} {mhi : Nat → Int64} {pk : Nat → Int32} {ps : Nat → Int32} {pl : Nat → Int64} {ph : Nat → Int64} {mm : Nat → Int64} {out : Nat → Int64}  : x_M l y_Ck_least (Cond.code y_Ck_least b_Ck_least 1 (Option.some Jvm.ClassFile.FieldType.long) :: x_Wd) { frames := 0, cells := 0, slots := 0, locals := 0 } (x_k D cA ad) (x_F ad cA) [(.ref (ad (4, 0)))] ((stp, psz, gk, gl, gh, opn, cki, ckl, mp, rk, rv, ri, chk), (mo, mi, ml, mk, mlo, mhi, pk, ps, pl, ph, mm), out) ((fun q : Int64 => ((some (.long (q)), ((stp, psz, gk, gl, gh, opn, cki, ckl, mp, rk, rv, ri, chk), (mo, mi, ml, mk, mlo, mhi, pk, ps, pl, ph, mm), out)) : Option Value × x_S)) (s_Ck_least ckl)) 0 0 := by
  refine x_start (κ := x_k D cA ad) (cc := b_Ck_least) (F := x_F ad cA) (wr := (fun q : Int64 => ((some (.long (q)), ((stp, psz, gk, gl, gh, opn, cki, ckl, mp, rk, rv, ri, chk), (mo, mi, ml, mk, mlo, mhi, pk, ps, pl, ph, mm), out)) : Option Value × x_S))) (q := s_Ck_least ckl) (ret := (Option.some Jvm.ClassFile.FieldType.long)) (lv0 := [(0, (.ref (ad (4, 0))))]) ok (by decide) rfl (Nat.le_of_ble_eq_true rfl) rfl ?_
  intro p e s m below meth c C hr hlk
  unfold s_Ck_least
  refine x_aload_n 0 C d_Ck_least_0 rfl rfl ?_
  refine x_get (i := (4, 0)) (v := (.long (ckl 0))) 11 C m_4 rfl rfl i_Ck (by decide) (List.mem_cons_of_mem _ q_145) rfl d_Ck_least_1 ?_
  exact x_lret C hr hlk rfl d_Ck_least_4
def s_Ck_greatest (ckl : Nat → Int64)  : Int64 :=
  (ckl 1)
set_option maxHeartbeats 4000000 in
set_option maxRecDepth 100000 in
theorem c_Ck_greatest {l : Launch} {D : va_G} {cA : Nat → ClassId} {ad : x_I → Nat} (ok : x_ok (x_k D cA ad)) {stp : Nat → Nat → Int32} {psz : Int32} {gk : Nat → Nat → Int32} {gl : Nat → Nat → Int64} {gh : Nat → Nat → Int64} {opn : Nat → Int32} {cki : Nat → Int32} {ckl : Nat → Int64} {mp : Nat → Nat → Int64} {rk : Nat → Int32} {rv : Nat → Int64} {ri : Nat → Int32} {chk : Int32} {mo : Nat → Nat → Int32} {mi : Nat → Int32} {ml : Nat → Int64} {mk : Nat → Int32} {mlo : Nat → Int64} {mhi : Nat → Int64} {pk : Nat → Int32} {ps : Nat → Int32} {pl : Nat → Int64} {ph : Nat → Int64} {mm : Nat → Int64} {out : Nat → Int64}  : x_M l y_Ck_greatest (Cond.code y_Ck_greatest b_Ck_greatest 1 (Option.some Jvm.ClassFile.FieldType.long) :: x_Wd) { frames := 0, cells := 0, slots := 0, locals := 0 } (x_k D cA ad) (x_F ad cA) [(.ref (ad (4, 0)))] ((stp, psz, gk, gl, gh, opn, cki, ckl, mp, rk, rv, ri, chk), (mo, mi, ml, mk, mlo, mhi, pk, ps, pl, ph, mm), out) ((fun q : Int64 => ((some (.long (q)), ((stp, psz, gk, gl, gh, opn, cki, ckl, mp, rk, rv, ri, chk), (mo, mi, ml, mk, mlo, mhi, pk, ps, pl, ph, mm), out)) : Option Value × x_S)) (s_Ck_greatest ckl)) 0 0 := by
  refine x_start (κ := x_k D cA ad) (cc := b_Ck_greatest) (F := x_F ad cA) (wr := (fun q : Int64 => ((some (.long (q)), ((stp, psz, gk, gl, gh, opn, cki, ckl, mp, rk, rv, ri, chk), (mo, mi, ml, mk, mlo, mhi, pk, ps, pl, ph, mm), out)) : Option Value × x_S))) (q := s_Ck_greatest ckl) (ret := (Option.some Jvm.ClassFile.FieldType.long)) (lv0 := [(0, (.ref (ad (4, 0))))]) ok (by decide) rfl (Nat.le_of_ble_eq_true rfl) rfl ?_
  intro p e s m below meth c C hr hlk
  unfold s_Ck_greatest
  refine x_aload_n 0 C d_Ck_greatest_0 rfl rfl ?_
  refine x_get (i := (4, 0)) (v := (.long (ckl 1))) 12 C m_4 rfl rfl i_Ck (by decide) (List.mem_cons_of_mem _ q_146) rfl d_Ck_greatest_1 ?_
  exact x_lret C hr hlk rfl d_Ck_greatest_4
def lp_Ck_begin_9 (n : Nat) (gk : Nat → Nat → Int32) (gl : Nat → Nat → Int64) (gh : Nat → Nat → Int64) (opn : Nat → Int32) (cki : Nat → Int32)  (x1 : Int32) : (Nat → Nat → Int32) × (Nat → Nat → Int64) × (Nat → Nat → Int64) × (Nat → Int32) × (Nat → Int32) := match n with
  | 0 => (gk, gl, gh, opn, cki)
  | n + 1 => (if 24 ≤ x1 then (gk, gl, gh, opn, upd (upd (upd cki 0 0) 1 0) 4 0) else lp_Ck_begin_9 n gk gl gh (upd opn x1.toNatClampNeg (vp_nar .boolean 0)) cki (x1 + 1))
set_option maxHeartbeats 4000000 in
set_option maxRecDepth 100000 in
theorem cl_Ck_begin_9 {l : Launch} {D : va_G} {cA : Nat → ClassId} {ad : x_I → Nat} (ok : x_ok (x_k D cA ad)) {stp : Nat → Nat → Int32} {psz : Int32} {ckl : Nat → Int64} {mp : Nat → Nat → Int64} {rk : Nat → Int32} {rv : Nat → Int64} {ri : Nat → Int32} {chk : Int32} {mo : Nat → Nat → Int32} {mi : Nat → Int32} {ml : Nat → Int64} {mk : Nat → Int32} {mlo : Nat → Int64} {mhi : Nat → Int64} {pk : Nat → Int32} {ps : Nat → Int32} {pl : Nat → Int64} {ph : Nat → Int64} {mm : Nat → Int64} {out : Nat → Int64} {p : Program} {e : Env} {s : State} {m : MethodId} {args : Array Value} {below : List Frame} {meth : Method} {c : Code} (C : x_C p s m args c b_Ck_begin 2 R_Ck (Cond.code y_Ck_begin b_Ck_begin 2 (Option.none : Option Jvm.ClassFile.FieldType) :: x_Wd) (x_k D cA ad)) (hr : meth.sig.returnType = (Option.none : Option Jvm.ClassFile.FieldType)) (hlk : meth.locks = false)  : ∀ (n : Nat) (gk : Nat → Nat → Int32) (gl : Nat → Nat → Int64) (gh : Nat → Nat → Int64) (opn : Nat → Int32) (cki : Nat → Int32) (x1 : Int32) (hv : x_lp x1 24 n), x_V p l e { frames := 3, cells := 0, slots := 0, locals := 68 } s m args below meth c (x_k D cA ad) 2 0 0 (x_E below (x_k D cA ad) args s 0 0 (x_F ad cA) (fun q : (Nat → Nat → Int32) × (Nat → Nat → Int64) × (Nat → Nat → Int64) × (Nat → Int32) × (Nat → Int32) => ((none, ((stp, psz, q.1, q.2.1, q.2.2.1, q.2.2.2.1, q.2.2.2.2, ckl, mp, rk, rv, ri, chk), (mo, mi, ml, mk, mlo, mhi, pk, ps, pl, ph, mm), out)) : Option Value × x_S)) (lp_Ck_begin_9 n gk gl gh opn cki x1)) (x_F ad cA ((stp, psz, gk, gl, gh, opn, cki, ckl, mp, rk, rv, ri, chk), (mo, mi, ml, mk, mlo, mhi, pk, ps, pl, ph, mm), out)) 9 [(0, (.ref (ad (4, 0)))), (1, (.int x1))] [] := by
  intro n
  induction n with
  | zero => intro gk gl gh opn cki x1 hv; exact absurd hv x_lp0
  | succ n ih =>
    intro gk gl gh opn cki x1 hv
    rw [lp_Ck_begin_9]
    refine x_iload_n 1 C d_Ck_begin_9 rfl rfl ?_
    refine x_bipush (v := 24) C d_Ck_begin_10 (by decide) ?_
    refine x_icmp_ge 28 C d_Ck_begin_12 (by decide) (fun z2 => ?_) (fun z2 => ?_)
    · refine x_aload_n 0 C d_Ck_begin_28 rfl rfl ?_
      refine x_iconst (v := 0) C d_Ck_begin_29 (by decide) ?_
      refine x_put (i := (4, 0)) (f' := x_F ad cA ((stp, psz, gk, gl, gh, opn, upd cki 0 0, ckl, mp, rk, rv, ri, chk), (mo, mi, ml, mk, mlo, mhi, pk, ps, pl, ph, mm), out)) 6 C m_4 rfl rfl i_Ck t_Ck_ok n_Ck (by decide) (List.mem_cons_of_mem _ q_140) rfl rfl rfl (Nat.le_of_ble_eq_true rfl) d_Ck_begin_30 e_cki0 ?_
      refine x_aload_n 0 C d_Ck_begin_33 rfl rfl ?_
      refine x_iconst (v := 0) C d_Ck_begin_34 (by decide) ?_
      refine x_put (i := (4, 0)) (f' := x_F ad cA ((stp, psz, gk, gl, gh, opn, upd (upd cki 0 0) 1 0, ckl, mp, rk, rv, ri, chk), (mo, mi, ml, mk, mlo, mhi, pk, ps, pl, ph, mm), out)) 7 C m_4 rfl rfl i_Ck t_Ck_ok n_Ck (by decide) (List.mem_cons_of_mem _ q_141) rfl rfl rfl (Nat.le_of_ble_eq_true rfl) d_Ck_begin_35 e_cki1 ?_
      refine x_aload_n 0 C d_Ck_begin_38 rfl rfl ?_
      refine x_iconst (v := 0) C d_Ck_begin_39 (by decide) ?_
      refine x_put (i := (4, 0)) (f' := x_F ad cA ((stp, psz, gk, gl, gh, opn, upd (upd (upd cki 0 0) 1 0) 4 0, ckl, mp, rk, rv, ri, chk), (mo, mi, ml, mk, mlo, mhi, pk, ps, pl, ph, mm), out)) 10 C m_4 rfl rfl i_Ck t_Ck_ok n_Ck (by decide) (List.mem_cons_of_mem _ q_144) rfl rfl rfl (Nat.le_of_ble_eq_true rfl) d_Ck_begin_40 e_cki4 ?_
      exact x_vret C hr hlk rfl d_Ck_begin_43
    · refine x_aload_n 0 C d_Ck_begin_15 rfl rfl ?_
      refine x_get (i := (4, 0)) (v := (.ref (ad (12, 0)))) 5 C m_4 rfl rfl i_Ck (by decide) (List.mem_cons_of_mem _ q_139) rfl d_Ck_begin_16 ?_
      refine x_iload_n 1 C d_Ck_begin_19 rfl rfl ?_
      refine x_iconst (v := 0) C d_Ck_begin_20 (by decide) ?_
      refine x_zast (i := (12, 0)) (g := opn) (f' := x_F ad cA ((stp, psz, gk, gl, gh, upd opn x1.toNatClampNeg (vp_nar .boolean 0), cki, ckl, mp, rk, rv, ri, chk), (mo, mi, ml, mk, mlo, mhi, pk, ps, pl, ph, mm), out)) 2 C m_12 rfl rfl (x_lpI hv z2 (by decide)) d_Ck_begin_21 e_opn ?_
      refine x_iinc (lv' := [(1, (.int (x1 + 1))), (0, (.ref (ad (4, 0))))]) 1 C d_Ck_begin_22 rfl rfl (by decide) rfl ?_
      refine x_goto 9 C d_Ck_begin_25 (by decide) ?_
      refine x_loc (lv' := [(0, (.ref (ad (4, 0)))), (1, (.int (x1 + 1)))]) [1, 0] rfl ?_
      exact ih gk gl gh (upd opn x1.toNatClampNeg (vp_nar .boolean 0)) cki (x1 + 1) (x_lpS hv z2 (by decide) (by decide))
def s_Ck_begin (gk : Nat → Nat → Int32) (gl : Nat → Nat → Int64) (gh : Nat → Nat → Int64) (opn : Nat → Int32) (cki : Nat → Int32)  : (Nat → Nat → Int32) × (Nat → Nat → Int64) × (Nat → Nat → Int64) × (Nat → Int32) × (Nat → Int32) :=
  (x_let (s_Gs_begin gk gl gh 0) fun (gk1, gl1, gh1) => lp_Ck_begin_9 25 gk1 gl1 gh1 opn cki 0)
set_option maxHeartbeats 4000000 in
set_option maxRecDepth 100000 in
theorem c_Ck_begin {l : Launch} {D : va_G} {cA : Nat → ClassId} {ad : x_I → Nat} (ok : x_ok (x_k D cA ad)) {stp : Nat → Nat → Int32} {psz : Int32} {gk : Nat → Nat → Int32} {gl : Nat → Nat → Int64} {gh : Nat → Nat → Int64} {opn : Nat → Int32} {cki : Nat → Int32} {ckl : Nat → Int64} {mp : Nat → Nat → Int64} {rk : Nat → Int32} {rv : Nat → Int64} {ri : Nat → Int32} {chk : Int32} {mo : Nat → Nat → Int32} {mi : Nat → Int32} {ml : Nat → Int64} {mk : Nat → Int32} {mlo : Nat → Int64} {mhi : Nat → Int64} {pk : Nat → Int32} {ps : Nat → Int32} {pl : Nat → Int64} {ph : Nat → Int64} {mm : Nat → Int64} {out : Nat → Int64}  : x_M l y_Ck_begin (Cond.code y_Ck_begin b_Ck_begin 2 (Option.none : Option Jvm.ClassFile.FieldType) :: x_Wd) { frames := 3, cells := 0, slots := 0, locals := 68 } (x_k D cA ad) (x_F ad cA) [(.ref (ad (4, 0)))] ((stp, psz, gk, gl, gh, opn, cki, ckl, mp, rk, rv, ri, chk), (mo, mi, ml, mk, mlo, mhi, pk, ps, pl, ph, mm), out) ((fun q : (Nat → Nat → Int32) × (Nat → Nat → Int64) × (Nat → Nat → Int64) × (Nat → Int32) × (Nat → Int32) => ((none, ((stp, psz, q.1, q.2.1, q.2.2.1, q.2.2.2.1, q.2.2.2.2, ckl, mp, rk, rv, ri, chk), (mo, mi, ml, mk, mlo, mhi, pk, ps, pl, ph, mm), out)) : Option Value × x_S)) (s_Ck_begin gk gl gh opn cki)) 0 0 := by
  refine x_start (κ := x_k D cA ad) (cc := b_Ck_begin) (F := x_F ad cA) (wr := (fun q : (Nat → Nat → Int32) × (Nat → Nat → Int64) × (Nat → Nat → Int64) × (Nat → Int32) × (Nat → Int32) => ((none, ((stp, psz, q.1, q.2.1, q.2.2.1, q.2.2.2.1, q.2.2.2.2, ckl, mp, rk, rv, ri, chk), (mo, mi, ml, mk, mlo, mhi, pk, ps, pl, ph, mm), out)) : Option Value × x_S))) (q := s_Ck_begin gk gl gh opn cki) (ret := (Option.none : Option Jvm.ClassFile.FieldType)) (lv0 := [(0, (.ref (ad (4, 0))))]) ok (by decide) rfl (Nat.le_of_ble_eq_true rfl) rfl ?_
  intro p e s m below meth c C hr hlk
  unfold s_Ck_begin
  refine x_aload_n 0 C d_Ck_begin_0 rfl rfl ?_
  refine x_get (i := (4, 0)) (v := (.ref (ad (5, 0)))) 1 C m_4 rfl rfl i_Ck (by decide) (List.mem_cons_of_mem _ q_135) rfl d_Ck_begin_1 ?_
  refine x_cv0 (i := (5, 0)) (F := x_F ad cA) (As := []) (rest := []) C k_Gs_begin q_407 (c_Gs_begin ok 0 (by decide)) rfl rfl rfl (Nat.le_of_ble_eq_true rfl) (Nat.le_of_ble_eq_true rfl) (m_5 (by decide)) rfl rfl rfl rfl rfl (Nat.le_of_ble_eq_true rfl) d_Ck_begin_4 ⟨Nat.zero_le _, Nat.zero_le _⟩ ?_
  generalize hq1 : s_Gs_begin gk gl gh 0 = q1
  obtain ⟨gk1, gl1, gh1⟩ := q1
  refine x_lets ?_
  dsimp only
  refine x_iconst (v := 0) C d_Ck_begin_7 (by decide) ?_
  refine x_istore_n (lv' := [(1, (.int 0)), (0, (.ref (ad (4, 0))))]) C d_Ck_begin_8 rfl (by decide) rfl ?_
  refine x_loc (lv' := [(0, (.ref (ad (4, 0)))), (1, (.int 0))]) [1, 0] rfl ?_
  exact cl_Ck_begin_9 ok C hr hlk  25 gk1 gl1 gh1 opn cki 0 ⟨by decide, by decide, by decide⟩
def s_Ck_reject (cki : Nat → Int32) (a1 : Int32) (a2 : Int32) : (Nat → Int32) :=
  (upd (upd (upd cki 0 1) 2 a1) 3 a2)
set_option maxHeartbeats 4000000 in
set_option maxRecDepth 100000 in
theorem c_Ck_reject {l : Launch} {D : va_G} {cA : Nat → ClassId} {ad : x_I → Nat} (ok : x_ok (x_k D cA ad)) {stp : Nat → Nat → Int32} {psz : Int32} {gk : Nat → Nat → Int32} {gl : Nat → Nat → Int64} {gh : Nat → Nat → Int64} {opn : Nat → Int32} {cki : Nat → Int32} {ckl : Nat → Int64} {mp : Nat → Nat → Int64} {rk : Nat → Int32} {rv : Nat → Int64} {ri : Nat → Int32} {chk : Int32} {mo : Nat → Nat → Int32} {mi : Nat → Int32} {ml : Nat → Int64} {mk : Nat → Int32} {mlo : Nat → Int64} {mhi : Nat → Int64} {pk : Nat → Int32} {ps : Nat → Int32} {pl : Nat → Int64} {ph : Nat → Int64} {mm : Nat → Int64} {out : Nat → Int64} (a1 : Int32) (a2 : Int32) : x_M l y_Ck_reject (Cond.code y_Ck_reject b_Ck_reject 3 (Option.none : Option Jvm.ClassFile.FieldType) :: x_Wd) { frames := 0, cells := 0, slots := 0, locals := 0 } (x_k D cA ad) (x_F ad cA) [(.ref (ad (4, 0))), (.int a1), (.int a2)] ((stp, psz, gk, gl, gh, opn, cki, ckl, mp, rk, rv, ri, chk), (mo, mi, ml, mk, mlo, mhi, pk, ps, pl, ph, mm), out) ((fun q : (Nat → Int32) => ((none, ((stp, psz, gk, gl, gh, opn, q, ckl, mp, rk, rv, ri, chk), (mo, mi, ml, mk, mlo, mhi, pk, ps, pl, ph, mm), out)) : Option Value × x_S)) (s_Ck_reject cki a1 a2)) 0 0 := by
  refine x_start (κ := x_k D cA ad) (cc := b_Ck_reject) (F := x_F ad cA) (wr := (fun q : (Nat → Int32) => ((none, ((stp, psz, gk, gl, gh, opn, q, ckl, mp, rk, rv, ri, chk), (mo, mi, ml, mk, mlo, mhi, pk, ps, pl, ph, mm), out)) : Option Value × x_S))) (q := s_Ck_reject cki a1 a2) (ret := (Option.none : Option Jvm.ClassFile.FieldType)) (lv0 := [(0, (.ref (ad (4, 0)))), (1, (.int a1)), (2, (.int a2))]) ok (by decide) rfl (Nat.le_of_ble_eq_true rfl) rfl ?_
  intro p e s m below meth c C hr hlk
  unfold s_Ck_reject
  refine x_aload_n 0 C d_Ck_reject_0 rfl rfl ?_
  refine x_iconst (v := 1) C d_Ck_reject_1 (by decide) ?_
  refine x_put (i := (4, 0)) (f' := x_F ad cA ((stp, psz, gk, gl, gh, opn, upd cki 0 1, ckl, mp, rk, rv, ri, chk), (mo, mi, ml, mk, mlo, mhi, pk, ps, pl, ph, mm), out)) 6 C m_4 rfl rfl i_Ck t_Ck_ok n_Ck (by decide) (List.mem_cons_of_mem _ q_140) rfl rfl rfl (Nat.le_of_ble_eq_true rfl) d_Ck_reject_2 e_cki0 ?_
  refine x_aload_n 0 C d_Ck_reject_5 rfl rfl ?_
  refine x_iload_n 1 C d_Ck_reject_6 rfl rfl ?_
  refine x_put (i := (4, 0)) (f' := x_F ad cA ((stp, psz, gk, gl, gh, opn, upd (upd cki 0 1) 2 a1, ckl, mp, rk, rv, ri, chk), (mo, mi, ml, mk, mlo, mhi, pk, ps, pl, ph, mm), out)) 8 C m_4 rfl rfl i_Ck t_Ck_ok n_Ck (by decide) (List.mem_cons_of_mem _ q_142) rfl rfl rfl (Nat.le_of_ble_eq_true rfl) d_Ck_reject_7 e_cki2 ?_
  refine x_aload_n 0 C d_Ck_reject_10 rfl rfl ?_
  refine x_iload_n 2 C d_Ck_reject_11 rfl rfl ?_
  refine x_put (i := (4, 0)) (f' := x_F ad cA ((stp, psz, gk, gl, gh, opn, upd (upd (upd cki 0 1) 2 a1) 3 a2, ckl, mp, rk, rv, ri, chk), (mo, mi, ml, mk, mlo, mhi, pk, ps, pl, ph, mm), out)) 9 C m_4 rfl rfl i_Ck t_Ck_ok n_Ck (by decide) (List.mem_cons_of_mem _ q_143) rfl rfl rfl (Nat.le_of_ble_eq_true rfl) d_Ck_reject_12 e_cki3 ?_
  exact x_vret C hr hlk rfl d_Ck_reject_15
def s_Ck_growOutcomes (cki : Nat → Int32) (ckl : Nat → Int64) (a1 : Int64) (a2 : Int64) : (Nat → Int32) × (Nat → Int64) :=
  (if (cki 4) = 0 then (if (cki 4) = 0 then (upd cki 4 1, vp_updL (vp_updL ckl 0 a1) 1 a2) else (upd cki 4 1, vp_updL (vp_updL ckl 0 a1) 1 (if a2 < ((vp_updL ckl 0 a1) 1) then (vp_updL ckl 0 a1) 1 else a2))) else (if (cki 4) = 0 then (upd cki 4 1, vp_updL (vp_updL ckl 0 (if a1 < (ckl 0) then a1 else ckl 0)) 1 a2) else (upd cki 4 1, vp_updL (vp_updL ckl 0 (if a1 < (ckl 0) then a1 else ckl 0)) 1 (if a2 < ((vp_updL ckl 0 (if a1 < (ckl 0) then a1 else ckl 0)) 1) then (vp_updL ckl 0 (if a1 < (ckl 0) then a1 else ckl 0)) 1 else a2))))
set_option maxHeartbeats 4000000 in
set_option maxRecDepth 100000 in
theorem c_Ck_growOutcomes {l : Launch} {D : va_G} {cA : Nat → ClassId} {ad : x_I → Nat} (ok : x_ok (x_k D cA ad)) {stp : Nat → Nat → Int32} {psz : Int32} {gk : Nat → Nat → Int32} {gl : Nat → Nat → Int64} {gh : Nat → Nat → Int64} {opn : Nat → Int32} {cki : Nat → Int32} {ckl : Nat → Int64} {mp : Nat → Nat → Int64} {rk : Nat → Int32} {rv : Nat → Int64} {ri : Nat → Int32} {chk : Int32} {mo : Nat → Nat → Int32} {mi : Nat → Int32} {ml : Nat → Int64} {mk : Nat → Int32} {mlo : Nat → Int64} {mhi : Nat → Int64} {pk : Nat → Int32} {ps : Nat → Int32} {pl : Nat → Int64} {ph : Nat → Int64} {mm : Nat → Int64} {out : Nat → Int64} (a1 : Int64) (a2 : Int64) : x_M l y_Ck_growOutcomes (Cond.code y_Ck_growOutcomes b_Ck_growOutcomes 5 (Option.none : Option Jvm.ClassFile.FieldType) :: x_Wd) { frames := 1, cells := 0, slots := 0, locals := 23 } (x_k D cA ad) (x_F ad cA) [(.ref (ad (4, 0))), (.long a1), (.long a2)] ((stp, psz, gk, gl, gh, opn, cki, ckl, mp, rk, rv, ri, chk), (mo, mi, ml, mk, mlo, mhi, pk, ps, pl, ph, mm), out) ((fun q : (Nat → Int32) × (Nat → Int64) => ((none, ((stp, psz, gk, gl, gh, opn, q.1, q.2, mp, rk, rv, ri, chk), (mo, mi, ml, mk, mlo, mhi, pk, ps, pl, ph, mm), out)) : Option Value × x_S)) (s_Ck_growOutcomes cki ckl a1 a2)) 0 0 := by
  refine x_start (κ := x_k D cA ad) (cc := b_Ck_growOutcomes) (F := x_F ad cA) (wr := (fun q : (Nat → Int32) × (Nat → Int64) => ((none, ((stp, psz, gk, gl, gh, opn, q.1, q.2, mp, rk, rv, ri, chk), (mo, mi, ml, mk, mlo, mhi, pk, ps, pl, ph, mm), out)) : Option Value × x_S))) (q := s_Ck_growOutcomes cki ckl a1 a2) (ret := (Option.none : Option Jvm.ClassFile.FieldType)) (lv0 := [(0, (.ref (ad (4, 0)))), (1, (.long a1)), (3, (.long a2))]) ok (by decide) rfl (Nat.le_of_ble_eq_true rfl) rfl ?_
  intro p e s m below meth c C hr hlk
  unfold s_Ck_growOutcomes
  refine x_aload_n 0 C d_Ck_growOutcomes_0 rfl rfl ?_
  refine x_aload_n 0 C d_Ck_growOutcomes_1 rfl rfl ?_
  refine x_get (i := (4, 0)) (v := (.int (cki 4))) 10 C m_4 rfl rfl i_Ck (by decide) (List.mem_cons_of_mem _ q_144) rfl d_Ck_growOutcomes_2 ?_
  refine x_if_eq 19 C d_Ck_growOutcomes_5 (by decide) (fun z1 => ?_) (fun z1 => ?_)
  · refine x_lload_n 1 C d_Ck_growOutcomes_19 rfl rfl ?_
    refine x_put (i := (4, 0)) (f' := x_F ad cA ((stp, psz, gk, gl, gh, opn, cki, vp_updL ckl 0 a1, mp, rk, rv, ri, chk), (mo, mi, ml, mk, mlo, mhi, pk, ps, pl, ph, mm), out)) 11 C m_4 rfl rfl i_Ck t_Ck_ok n_Ck (by decide) (List.mem_cons_of_mem _ q_145) rfl rfl rfl (Nat.le_of_ble_eq_true rfl) d_Ck_growOutcomes_20 e_ckl0 ?_
    refine x_aload_n 0 C d_Ck_growOutcomes_23 rfl rfl ?_
    refine x_aload_n 0 C d_Ck_growOutcomes_24 rfl rfl ?_
    refine x_get (i := (4, 0)) (v := (.int (cki 4))) 10 C m_4 rfl rfl i_Ck (by decide) (List.mem_cons_of_mem _ q_144) rfl d_Ck_growOutcomes_25 ?_
    refine x_if_eq 42 C d_Ck_growOutcomes_28 (by decide) (fun z2 => ?_) (fun z2 => ?_)
    · refine x_lload_n 2 C d_Ck_growOutcomes_42 rfl rfl ?_
      refine x_put (i := (4, 0)) (f' := x_F ad cA ((stp, psz, gk, gl, gh, opn, cki, vp_updL (vp_updL ckl 0 a1) 1 a2, mp, rk, rv, ri, chk), (mo, mi, ml, mk, mlo, mhi, pk, ps, pl, ph, mm), out)) 12 C m_4 rfl rfl i_Ck t_Ck_ok n_Ck (by decide) (List.mem_cons_of_mem _ q_146) rfl rfl rfl (Nat.le_of_ble_eq_true rfl) d_Ck_growOutcomes_43 e_ckl1 ?_
      refine x_aload_n 0 C d_Ck_growOutcomes_46 rfl rfl ?_
      refine x_iconst (v := 1) C d_Ck_growOutcomes_47 (by decide) ?_
      refine x_put (i := (4, 0)) (f' := x_F ad cA ((stp, psz, gk, gl, gh, opn, upd cki 4 1, vp_updL (vp_updL ckl 0 a1) 1 a2, mp, rk, rv, ri, chk), (mo, mi, ml, mk, mlo, mhi, pk, ps, pl, ph, mm), out)) 10 C m_4 rfl rfl i_Ck t_Ck_ok n_Ck (by decide) (List.mem_cons_of_mem _ q_144) rfl rfl rfl (Nat.le_of_ble_eq_true rfl) d_Ck_growOutcomes_48 e_cki4 ?_
      exact x_vret C hr hlk rfl d_Ck_growOutcomes_51
    · refine x_aload_n 0 C d_Ck_growOutcomes_31 rfl rfl ?_
      refine x_get (i := (4, 0)) (v := (.long ((vp_updL ckl 0 a1) 1))) 12 C m_4 rfl rfl i_Ck (by decide) (List.mem_cons_of_mem _ q_146) rfl d_Ck_growOutcomes_32 ?_
      refine x_lload_n 2 C d_Ck_growOutcomes_35 rfl rfl ?_
      refine x_maxl C (List.mem_cons_of_mem _ q_550) (List.mem_cons_of_mem _ q_551) (List.mem_cons_of_mem _ q_16) (List.mem_cons_of_mem _ q_552) (Nat.le_of_ble_eq_true rfl) (Nat.le_of_ble_eq_true rfl) (Nat.zero_le _) (Nat.zero_le _) d_Ck_growOutcomes_36 ?_
      refine x_goto 43 C d_Ck_growOutcomes_39 (by decide) ?_
      refine x_put (i := (4, 0)) (f' := x_F ad cA ((stp, psz, gk, gl, gh, opn, cki, vp_updL (vp_updL ckl 0 a1) 1 (if a2 < ((vp_updL ckl 0 a1) 1) then (vp_updL ckl 0 a1) 1 else a2), mp, rk, rv, ri, chk), (mo, mi, ml, mk, mlo, mhi, pk, ps, pl, ph, mm), out)) 12 C m_4 rfl rfl i_Ck t_Ck_ok n_Ck (by decide) (List.mem_cons_of_mem _ q_146) rfl rfl rfl (Nat.le_of_ble_eq_true rfl) d_Ck_growOutcomes_43 e_ckl1 ?_
      refine x_aload_n 0 C d_Ck_growOutcomes_46 rfl rfl ?_
      refine x_iconst (v := 1) C d_Ck_growOutcomes_47 (by decide) ?_
      refine x_put (i := (4, 0)) (f' := x_F ad cA ((stp, psz, gk, gl, gh, opn, upd cki 4 1, vp_updL (vp_updL ckl 0 a1) 1 (if a2 < ((vp_updL ckl 0 a1) 1) then (vp_updL ckl 0 a1) 1 else a2), mp, rk, rv, ri, chk), (mo, mi, ml, mk, mlo, mhi, pk, ps, pl, ph, mm), out)) 10 C m_4 rfl rfl i_Ck t_Ck_ok n_Ck (by decide) (List.mem_cons_of_mem _ q_144) rfl rfl rfl (Nat.le_of_ble_eq_true rfl) d_Ck_growOutcomes_48 e_cki4 ?_
      exact x_vret C hr hlk rfl d_Ck_growOutcomes_51
  · refine x_aload_n 0 C d_Ck_growOutcomes_8 rfl rfl ?_
    refine x_get (i := (4, 0)) (v := (.long (ckl 0))) 11 C m_4 rfl rfl i_Ck (by decide) (List.mem_cons_of_mem _ q_145) rfl d_Ck_growOutcomes_9 ?_
    refine x_lload_n 1 C d_Ck_growOutcomes_12 rfl rfl ?_
    refine x_minl C (List.mem_cons_of_mem _ q_547) (List.mem_cons_of_mem _ q_548) (List.mem_cons_of_mem _ q_16) (List.mem_cons_of_mem _ q_549) (Nat.le_of_ble_eq_true rfl) (Nat.le_of_ble_eq_true rfl) (Nat.zero_le _) (Nat.zero_le _) d_Ck_growOutcomes_13 ?_
    refine x_goto 20 C d_Ck_growOutcomes_16 (by decide) ?_
    refine x_put (i := (4, 0)) (f' := x_F ad cA ((stp, psz, gk, gl, gh, opn, cki, vp_updL ckl 0 (if a1 < (ckl 0) then a1 else ckl 0), mp, rk, rv, ri, chk), (mo, mi, ml, mk, mlo, mhi, pk, ps, pl, ph, mm), out)) 11 C m_4 rfl rfl i_Ck t_Ck_ok n_Ck (by decide) (List.mem_cons_of_mem _ q_145) rfl rfl rfl (Nat.le_of_ble_eq_true rfl) d_Ck_growOutcomes_20 e_ckl0 ?_
    refine x_aload_n 0 C d_Ck_growOutcomes_23 rfl rfl ?_
    refine x_aload_n 0 C d_Ck_growOutcomes_24 rfl rfl ?_
    refine x_get (i := (4, 0)) (v := (.int (cki 4))) 10 C m_4 rfl rfl i_Ck (by decide) (List.mem_cons_of_mem _ q_144) rfl d_Ck_growOutcomes_25 ?_
    refine x_if_eq 42 C d_Ck_growOutcomes_28 (by decide) (fun z3 => ?_) (fun z3 => ?_)
    · refine x_lload_n 2 C d_Ck_growOutcomes_42 rfl rfl ?_
      refine x_put (i := (4, 0)) (f' := x_F ad cA ((stp, psz, gk, gl, gh, opn, cki, vp_updL (vp_updL ckl 0 (if a1 < (ckl 0) then a1 else ckl 0)) 1 a2, mp, rk, rv, ri, chk), (mo, mi, ml, mk, mlo, mhi, pk, ps, pl, ph, mm), out)) 12 C m_4 rfl rfl i_Ck t_Ck_ok n_Ck (by decide) (List.mem_cons_of_mem _ q_146) rfl rfl rfl (Nat.le_of_ble_eq_true rfl) d_Ck_growOutcomes_43 e_ckl1 ?_
      refine x_aload_n 0 C d_Ck_growOutcomes_46 rfl rfl ?_
      refine x_iconst (v := 1) C d_Ck_growOutcomes_47 (by decide) ?_
      refine x_put (i := (4, 0)) (f' := x_F ad cA ((stp, psz, gk, gl, gh, opn, upd cki 4 1, vp_updL (vp_updL ckl 0 (if a1 < (ckl 0) then a1 else ckl 0)) 1 a2, mp, rk, rv, ri, chk), (mo, mi, ml, mk, mlo, mhi, pk, ps, pl, ph, mm), out)) 10 C m_4 rfl rfl i_Ck t_Ck_ok n_Ck (by decide) (List.mem_cons_of_mem _ q_144) rfl rfl rfl (Nat.le_of_ble_eq_true rfl) d_Ck_growOutcomes_48 e_cki4 ?_
      exact x_vret C hr hlk rfl d_Ck_growOutcomes_51
    · refine x_aload_n 0 C d_Ck_growOutcomes_31 rfl rfl ?_
      refine x_get (i := (4, 0)) (v := (.long ((vp_updL ckl 0 (if a1 < (ckl 0) then a1 else ckl 0)) 1))) 12 C m_4 rfl rfl i_Ck (by decide) (List.mem_cons_of_mem _ q_146) rfl d_Ck_growOutcomes_32 ?_
      refine x_lload_n 2 C d_Ck_growOutcomes_35 rfl rfl ?_
      refine x_maxl C (List.mem_cons_of_mem _ q_550) (List.mem_cons_of_mem _ q_551) (List.mem_cons_of_mem _ q_16) (List.mem_cons_of_mem _ q_552) (Nat.le_of_ble_eq_true rfl) (Nat.le_of_ble_eq_true rfl) (Nat.zero_le _) (Nat.zero_le _) d_Ck_growOutcomes_36 ?_
      refine x_goto 43 C d_Ck_growOutcomes_39 (by decide) ?_
      refine x_put (i := (4, 0)) (f' := x_F ad cA ((stp, psz, gk, gl, gh, opn, cki, vp_updL (vp_updL ckl 0 (if a1 < (ckl 0) then a1 else ckl 0)) 1 (if a2 < ((vp_updL ckl 0 (if a1 < (ckl 0) then a1 else ckl 0)) 1) then (vp_updL ckl 0 (if a1 < (ckl 0) then a1 else ckl 0)) 1 else a2), mp, rk, rv, ri, chk), (mo, mi, ml, mk, mlo, mhi, pk, ps, pl, ph, mm), out)) 12 C m_4 rfl rfl i_Ck t_Ck_ok n_Ck (by decide) (List.mem_cons_of_mem _ q_146) rfl rfl rfl (Nat.le_of_ble_eq_true rfl) d_Ck_growOutcomes_43 e_ckl1 ?_
      refine x_aload_n 0 C d_Ck_growOutcomes_46 rfl rfl ?_
      refine x_iconst (v := 1) C d_Ck_growOutcomes_47 (by decide) ?_
      refine x_put (i := (4, 0)) (f' := x_F ad cA ((stp, psz, gk, gl, gh, opn, upd cki 4 1, vp_updL (vp_updL ckl 0 (if a1 < (ckl 0) then a1 else ckl 0)) 1 (if a2 < ((vp_updL ckl 0 (if a1 < (ckl 0) then a1 else ckl 0)) 1) then (vp_updL ckl 0 (if a1 < (ckl 0) then a1 else ckl 0)) 1 else a2), mp, rk, rv, ri, chk), (mo, mi, ml, mk, mlo, mhi, pk, ps, pl, ph, mm), out)) 10 C m_4 rfl rfl i_Ck t_Ck_ok n_Ck (by decide) (List.mem_cons_of_mem _ q_144) rfl rfl rfl (Nat.le_of_ble_eq_true rfl) d_Ck_growOutcomes_48 e_cki4 ?_
      exact x_vret C hr hlk rfl d_Ck_growOutcomes_51
def s_Ck_fork (stp : Nat → Nat → Int32) (gk : Nat → Nat → Int32) (gl : Nat → Nat → Int64) (gh : Nat → Nat → Int64) (opn : Nat → Int32) (j : Nat) (a2 : Int32) : Int32 × (Nat → Nat → Int32) × (Nat → Nat → Int64) × (Nat → Nat → Int64) × (Nat → Int32) :=
  (x_let (s_Fk_leadsToTarget stp gk gl gh j 0) fun r1 => (x_let (s_Fk_leadsOn stp gk gl gh j 0) fun r2 => (if r2 = 0 then (x_let (s_Fk_goToTarget stp gk gl gh j 0) fun (gk4, gl4, gh4) => (stp j 4, gk4, gl4, gh4, opn)) else (if r1 = 0 then (x_let (s_Fk_goOn stp gk gl gh j 0) fun (gk6, gl6, gh6) => (a2 + 1, gk6, gl6, gh6, opn)) else (x_let (s_Gs_become gk gl gh (a2.toNatClampNeg + 1) 0) fun (gk7, gl7, gh7) => (x_let (s_Fk_goToTarget stp gk7 gl7 gh7 j (a2.toNatClampNeg + 1)) fun (gk8, gl8, gh8) => (x_let (s_Fk_goOn stp gk8 gl8 gh8 j 0) fun (gk9, gl9, gh9) => (a2 + 1, gk9, gl9, gh9, upd opn a2.toNatClampNeg (vp_nar .boolean 1)))))))))
set_option maxHeartbeats 4000000 in
set_option maxRecDepth 100000 in
theorem c_Ck_fork {l : Launch} {D : va_G} {cA : Nat → ClassId} {ad : x_I → Nat} (ok : x_ok (x_k D cA ad)) {stp : Nat → Nat → Int32} {psz : Int32} {gk : Nat → Nat → Int32} {gl : Nat → Nat → Int64} {gh : Nat → Nat → Int64} {opn : Nat → Int32} {cki : Nat → Int32} {ckl : Nat → Int64} {mp : Nat → Nat → Int64} {rk : Nat → Int32} {rv : Nat → Int64} {ri : Nat → Int32} {chk : Int32} {mo : Nat → Nat → Int32} {mi : Nat → Int32} {ml : Nat → Int64} {mk : Nat → Int32} {mlo : Nat → Int64} {mhi : Nat → Int64} {pk : Nat → Int32} {ps : Nat → Int32} {pl : Nat → Int64} {ph : Nat → Int64} {mm : Nat → Int64} {out : Nat → Int64} (j : Nat) (hj : j < 24) (a2 : Int32) (h2 : vp_in a2 24) (hw : x_wf stp) : x_M l y_Ck_fork (Cond.code y_Ck_fork b_Ck_fork 4 (Option.some Jvm.ClassFile.FieldType.int) :: x_Wd) { frames := 3, cells := 0, slots := 0, locals := 81 } (x_k D cA ad) (x_F ad cA) [(.ref (ad (4, 0))), (.ref (ad (3, j))), (.int a2)] ((stp, psz, gk, gl, gh, opn, cki, ckl, mp, rk, rv, ri, chk), (mo, mi, ml, mk, mlo, mhi, pk, ps, pl, ph, mm), out) ((fun q : Int32 × (Nat → Nat → Int32) × (Nat → Nat → Int64) × (Nat → Nat → Int64) × (Nat → Int32) => ((some (.int (q.1)), ((stp, psz, q.2.1, q.2.2.1, q.2.2.2.1, q.2.2.2.2, cki, ckl, mp, rk, rv, ri, chk), (mo, mi, ml, mk, mlo, mhi, pk, ps, pl, ph, mm), out)) : Option Value × x_S)) (s_Ck_fork stp gk gl gh opn j a2)) 0 0 := by
  refine x_start (κ := x_k D cA ad) (cc := b_Ck_fork) (F := x_F ad cA) (wr := (fun q : Int32 × (Nat → Nat → Int32) × (Nat → Nat → Int64) × (Nat → Nat → Int64) × (Nat → Int32) => ((some (.int (q.1)), ((stp, psz, q.2.1, q.2.2.1, q.2.2.2.1, q.2.2.2.2, cki, ckl, mp, rk, rv, ri, chk), (mo, mi, ml, mk, mlo, mhi, pk, ps, pl, ph, mm), out)) : Option Value × x_S))) (q := s_Ck_fork stp gk gl gh opn j a2) (ret := (Option.some Jvm.ClassFile.FieldType.int)) (lv0 := [(0, (.ref (ad (4, 0)))), (1, (.ref (ad (3, j)))), (2, (.int a2))]) ok (by decide) rfl (Nat.le_of_ble_eq_true rfl) rfl ?_
  intro p e s m below meth c C hr hlk
  unfold s_Ck_fork
  refine x_aload_n 1 C d_Ck_fork_0 rfl rfl ?_
  refine x_aload_n 0 C d_Ck_fork_1 rfl rfl ?_
  refine x_get (i := (4, 0)) (v := (.ref (ad (5, 0)))) 1 C m_4 rfl rfl i_Ck (by decide) (List.mem_cons_of_mem _ q_135) rfl d_Ck_fork_2 ?_
  refine x_cs (F := x_F ad cA) (As := [(.ref (ad (3, j))), (.ref (ad (5, 0)))]) (rest := []) C k_Fk_leadsToTarget q_569 (c_Fk_leadsToTarget ok j hj 0 (by decide) hw) rfl rfl rfl (Nat.le_of_ble_eq_true rfl) (Nat.le_of_ble_eq_true rfl) rfl rfl (Nat.le_of_ble_eq_true rfl) d_Ck_fork_5 ⟨Nat.zero_le _, Nat.zero_le _⟩ ?_
  generalize hq1 : s_Fk_leadsToTarget stp gk gl gh j 0 = r1
  refine x_lets ?_
  refine x_istore_n (lv' := [(3, (.int r1)), (0, (.ref (ad (4, 0)))), (1, (.ref (ad (3, j)))), (2, (.int a2))]) C d_Ck_fork_8 rfl (by decide) rfl ?_
  refine x_aload_n 2 C d_Ck_fork_9 rfl rfl ?_
  refine x_aload_n 1 C d_Ck_fork_10 rfl rfl ?_
  refine x_get (i := (4, 0)) (v := (.ref (ad (5, 0)))) 1 C m_4 rfl rfl i_Ck (by decide) (List.mem_cons_of_mem _ q_135) rfl d_Ck_fork_11 ?_
  refine x_cs (F := x_F ad cA) (As := [(.ref (ad (3, j))), (.ref (ad (5, 0)))]) (rest := []) C k_Fk_leadsOn q_578 (c_Fk_leadsOn ok j hj 0 (by decide) hw) rfl rfl rfl (Nat.le_of_ble_eq_true rfl) (Nat.le_of_ble_eq_true rfl) rfl rfl (Nat.le_of_ble_eq_true rfl) d_Ck_fork_14 ⟨Nat.zero_le _, Nat.zero_le _⟩ ?_
  generalize hq2 : s_Fk_leadsOn stp gk gl gh j 0 = r2
  refine x_lets ?_
  refine x_if_ne 33 C d_Ck_fork_17 (by decide) (fun z3 => ?_) (fun z3 => ?_)
  · refine x_aload_n 2 C d_Ck_fork_20 rfl rfl ?_
    refine x_aload_n 1 C d_Ck_fork_21 rfl rfl ?_
    refine x_get (i := (4, 0)) (v := (.ref (ad (5, 0)))) 1 C m_4 rfl rfl i_Ck (by decide) (List.mem_cons_of_mem _ q_135) rfl d_Ck_fork_22 ?_
    refine x_cs0 (F := x_F ad cA) (As := [(.ref (ad (3, j))), (.ref (ad (5, 0)))]) (rest := []) C k_Fk_goToTarget q_581 (c_Fk_goToTarget ok j hj 0 (by decide) hw) rfl rfl rfl (Nat.le_of_ble_eq_true rfl) (Nat.le_of_ble_eq_true rfl) rfl rfl (Nat.le_of_ble_eq_true rfl) d_Ck_fork_25 ⟨Nat.zero_le _, Nat.zero_le _⟩ ?_
    generalize hq4 : s_Fk_goToTarget stp gk gl gh j 0 = q4
    obtain ⟨gk4, gl4, gh4⟩ := q4
    refine x_lets ?_
    dsimp only
    refine x_aload_n 2 C d_Ck_fork_28 rfl rfl ?_
    refine x_get (i := (3, j)) (v := (.int (stp j 4))) 4 C (m_3 hj) rfl rfl i_St (by decide) (List.mem_cons_of_mem _ q_67) rfl d_Ck_fork_29 ?_
    exact x_iret C hr hlk rfl d_Ck_fork_32
  · refine x_iload_n 0 C d_Ck_fork_33 rfl rfl ?_
    refine x_if_eq 67 C d_Ck_fork_34 (by decide) (fun z5 => ?_) (fun z5 => ?_)
    · refine x_aload_n 2 C d_Ck_fork_67 rfl rfl ?_
      refine x_aload_n 1 C d_Ck_fork_68 rfl rfl ?_
      refine x_get (i := (4, 0)) (v := (.ref (ad (5, 0)))) 1 C m_4 rfl rfl i_Ck (by decide) (List.mem_cons_of_mem _ q_135) rfl d_Ck_fork_69 ?_
      refine x_cs0 (F := x_F ad cA) (As := [(.ref (ad (3, j))), (.ref (ad (5, 0)))]) (rest := []) C k_Fk_goOn q_590 (c_Fk_goOn ok j hj 0 (by decide) hw) rfl rfl rfl (Nat.le_of_ble_eq_true rfl) (Nat.le_of_ble_eq_true rfl) rfl rfl (Nat.le_of_ble_eq_true rfl) d_Ck_fork_72 ⟨Nat.zero_le _, Nat.zero_le _⟩ ?_
      generalize hq6 : s_Fk_goOn stp gk gl gh j 0 = q6
      obtain ⟨gk6, gl6, gh6⟩ := q6
      refine x_lets ?_
      dsimp only
      refine x_iload_n 3 C d_Ck_fork_75 rfl rfl ?_
      refine x_iconst (v := 1) C d_Ck_fork_76 (by decide) ?_
      refine x_iadd C d_Ck_fork_77 ?_
      exact x_iret C hr hlk rfl d_Ck_fork_78
    · refine x_aload_n 1 C d_Ck_fork_37 rfl rfl ?_
      refine x_get (i := (4, 0)) (v := (.ref (ad (11, 0)))) 4 C m_4 rfl rfl i_Ck (by decide) (List.mem_cons_of_mem _ q_138) rfl d_Ck_fork_38 ?_
      refine x_iload_n 3 C d_Ck_fork_41 rfl rfl ?_
      refine x_aald (i := (11, 0)) 4 C m_11 rfl rfl h2 d_Ck_fork_42 ?_
      refine x_aload_n 1 C d_Ck_fork_43 rfl rfl ?_
      refine x_get (i := (4, 0)) (v := (.ref (ad (5, 0)))) 1 C m_4 rfl rfl i_Ck (by decide) (List.mem_cons_of_mem _ q_135) rfl d_Ck_fork_44 ?_
      refine x_cv0 (i := (5, a2.toNatClampNeg + 1)) (F := x_F ad cA) (As := [(.ref (ad (5, 0)))]) (rest := []) C k_Gs_become q_557 (c_Gs_become ok (a2.toNatClampNeg + 1) (x_lt1 h2) 0 (by decide)) rfl rfl rfl (Nat.le_of_ble_eq_true rfl) (Nat.le_of_ble_eq_true rfl) (m_5 (x_lt1 h2)) rfl rfl rfl rfl rfl (Nat.le_of_ble_eq_true rfl) d_Ck_fork_47 ⟨Nat.zero_le _, Nat.zero_le _⟩ ?_
      generalize hq7 : s_Gs_become gk gl gh (a2.toNatClampNeg + 1) 0 = q7
      obtain ⟨gk7, gl7, gh7⟩ := q7
      refine x_lets ?_
      dsimp only
      refine x_aload_n 2 C d_Ck_fork_50 rfl rfl ?_
      refine x_aload_n 1 C d_Ck_fork_51 rfl rfl ?_
      refine x_get (i := (4, 0)) (v := (.ref (ad (11, 0)))) 4 C m_4 rfl rfl i_Ck (by decide) (List.mem_cons_of_mem _ q_138) rfl d_Ck_fork_52 ?_
      refine x_iload_n 3 C d_Ck_fork_55 rfl rfl ?_
      refine x_aald (i := (11, 0)) 4 C m_11 rfl rfl h2 d_Ck_fork_56 ?_
      refine x_cs0 (F := x_F ad cA) (As := [(.ref (ad (3, j))), (.ref (ad (5, a2.toNatClampNeg + 1)))]) (rest := []) C k_Fk_goToTarget q_581 (c_Fk_goToTarget ok j hj (a2.toNatClampNeg + 1) (x_lt1 h2) hw) rfl rfl rfl (Nat.le_of_ble_eq_true rfl) (Nat.le_of_ble_eq_true rfl) rfl rfl (Nat.le_of_ble_eq_true rfl) d_Ck_fork_57 ⟨Nat.zero_le _, Nat.zero_le _⟩ ?_
      generalize hq8 : s_Fk_goToTarget stp gk7 gl7 gh7 j (a2.toNatClampNeg + 1) = q8
      obtain ⟨gk8, gl8, gh8⟩ := q8
      refine x_lets ?_
      dsimp only
      refine x_aload_n 1 C d_Ck_fork_60 rfl rfl ?_
      refine x_get (i := (4, 0)) (v := (.ref (ad (12, 0)))) 5 C m_4 rfl rfl i_Ck (by decide) (List.mem_cons_of_mem _ q_139) rfl d_Ck_fork_61 ?_
      refine x_iload_n 3 C d_Ck_fork_64 rfl rfl ?_
      refine x_iconst (v := 1) C d_Ck_fork_65 (by decide) ?_
      refine x_zast (i := (12, 0)) (g := opn) (f' := x_F ad cA ((stp, psz, gk8, gl8, gh8, upd opn a2.toNatClampNeg (vp_nar .boolean 1), cki, ckl, mp, rk, rv, ri, chk), (mo, mi, ml, mk, mlo, mhi, pk, ps, pl, ph, mm), out)) 2 C m_12 rfl rfl h2 d_Ck_fork_66 e_opn ?_
      refine x_aload_n 2 C d_Ck_fork_67 rfl rfl ?_
      refine x_aload_n 1 C d_Ck_fork_68 rfl rfl ?_
      refine x_get (i := (4, 0)) (v := (.ref (ad (5, 0)))) 1 C m_4 rfl rfl i_Ck (by decide) (List.mem_cons_of_mem _ q_135) rfl d_Ck_fork_69 ?_
      refine x_cs0 (F := x_F ad cA) (As := [(.ref (ad (3, j))), (.ref (ad (5, 0)))]) (rest := []) C k_Fk_goOn q_590 (c_Fk_goOn ok j hj 0 (by decide) hw) rfl rfl rfl (Nat.le_of_ble_eq_true rfl) (Nat.le_of_ble_eq_true rfl) rfl rfl (Nat.le_of_ble_eq_true rfl) d_Ck_fork_72 ⟨Nat.zero_le _, Nat.zero_le _⟩ ?_
      generalize hq9 : s_Fk_goOn stp gk8 gl8 gh8 j 0 = q9
      obtain ⟨gk9, gl9, gh9⟩ := q9
      refine x_lets ?_
      dsimp only
      refine x_iload_n 3 C d_Ck_fork_75 rfl rfl ?_
      refine x_iconst (v := 1) C d_Ck_fork_76 (by decide) ?_
      refine x_iadd C d_Ck_fork_77 ?_
      exact x_iret C hr hlk rfl d_Ck_fork_78
def lp_Ck_takeUpLatest_3 (n : Nat) (stp : Nat → Nat → Int32) (psz : Int32) (gk : Nat → Nat → Int32) (gl : Nat → Nat → Int64) (gh : Nat → Nat → Int64) (opn : Nat → Int32)  (x1 : Int32) : Int32 × (Nat → Nat → Int32) × (Nat → Nat → Int64) × (Nat → Nat → Int64) × (Nat → Int32) := match n with
  | 0 => (0, gk, gl, gh, opn)
  | n + 1 => (if x1 < 0 then ((-1), gk, gl, gh, opn) else (x_let (s_Pg_stepAt psz x1) fun r2 => match r2 with | none => (if (opn x1.toNatClampNeg) = 0 then lp_Ck_takeUpLatest_3 n stp psz gk gl gh opn (x1 + (-1)) else lp_Ck_takeUpLatest_3 n stp psz gk gl gh opn (x1 + (-1))) | some j2 => (if (opn x1.toNatClampNeg) = 0 then lp_Ck_takeUpLatest_3 n stp psz gk gl gh opn (x1 + (-1)) else (x_let (s_Gs_become gk gl gh 0 (x1.toNatClampNeg + 1)) fun (gk5, gl5, gh5) => (stp j2 4, gk5, gl5, gh5, upd opn x1.toNatClampNeg (vp_nar .boolean 0))))))
set_option maxHeartbeats 4000000 in
set_option maxRecDepth 100000 in
theorem cl_Ck_takeUpLatest_3 {l : Launch} {D : va_G} {cA : Nat → ClassId} {ad : x_I → Nat} (ok : x_ok (x_k D cA ad)) {stp : Nat → Nat → Int32} {psz : Int32} {cki : Nat → Int32} {ckl : Nat → Int64} {mp : Nat → Nat → Int64} {rk : Nat → Int32} {rv : Nat → Int64} {ri : Nat → Int32} {chk : Int32} {mo : Nat → Nat → Int32} {mi : Nat → Int32} {ml : Nat → Int64} {mk : Nat → Int32} {mlo : Nat → Int64} {mhi : Nat → Int64} {pk : Nat → Int32} {ps : Nat → Int32} {pl : Nat → Int64} {ph : Nat → Int64} {mm : Nat → Int64} {out : Nat → Int64} {p : Program} {e : Env} {s : State} {m : MethodId} {args : Array Value} {below : List Frame} {meth : Method} {c : Code} (C : x_C p s m args c b_Ck_takeUpLatest 3 R_Ck (Cond.code y_Ck_takeUpLatest b_Ck_takeUpLatest 3 (Option.some Jvm.ClassFile.FieldType.int) :: x_Wd) (x_k D cA ad)) (hr : meth.sig.returnType = (Option.some Jvm.ClassFile.FieldType.int)) (hlk : meth.locks = false)  : ∀ (n : Nat) (gk : Nat → Nat → Int32) (gl : Nat → Nat → Int64) (gh : Nat → Nat → Int64) (opn : Nat → Int32) (x1 : Int32) (hv : x_ld x1 n), x_V p l e { frames := 2, cells := 0, slots := 0, locals := 81 } s m args below meth c (x_k D cA ad) 3 0 0 (x_E below (x_k D cA ad) args s 0 0 (x_F ad cA) (fun q : Int32 × (Nat → Nat → Int32) × (Nat → Nat → Int64) × (Nat → Nat → Int64) × (Nat → Int32) => ((some (.int (q.1)), ((stp, psz, q.2.1, q.2.2.1, q.2.2.2.1, q.2.2.2.2, cki, ckl, mp, rk, rv, ri, chk), (mo, mi, ml, mk, mlo, mhi, pk, ps, pl, ph, mm), out)) : Option Value × x_S)) (lp_Ck_takeUpLatest_3 n stp psz gk gl gh opn x1)) (x_F ad cA ((stp, psz, gk, gl, gh, opn, cki, ckl, mp, rk, rv, ri, chk), (mo, mi, ml, mk, mlo, mhi, pk, ps, pl, ph, mm), out)) 3 [(0, (.ref (ad (4, 0)))), (1, (.int x1))] [] := by
  intro n
  induction n with
  | zero => intro gk gl gh opn x1 hv; exact absurd hv x_ld0
  | succ n ih =>
    intro gk gl gh opn x1 hv
    rw [lp_Ck_takeUpLatest_3]
    refine x_iload_n 1 C d_Ck_takeUpLatest_3 rfl rfl ?_
    refine x_if_lt 60 C d_Ck_takeUpLatest_4 (by decide) (fun z1 => ?_) (fun z1 => ?_)
    · refine x_iconst (v := (-1)) C d_Ck_takeUpLatest_60 (by decide) ?_
      exact x_iret C hr hlk rfl d_Ck_takeUpLatest_61
    · refine x_aload_n 0 C d_Ck_takeUpLatest_7 rfl rfl ?_
      refine x_get (i := (4, 0)) (v := (.ref (ad (1, 0)))) 0 C m_4 rfl rfl i_Ck (by decide) (List.mem_cons_of_mem _ q_134) rfl d_Ck_takeUpLatest_8 ?_
      refine x_iload_n 1 C d_Ck_takeUpLatest_11 rfl rfl ?_
      refine x_cv (i := (1, 0)) (F := x_F ad cA) (As := [(.int x1)]) (rest := []) C k_Pg_stepAt q_429 (c_Pg_stepAt ok x1) rfl rfl rfl (Nat.le_of_ble_eq_true rfl) (Nat.le_of_ble_eq_true rfl) m_1 rfl rfl rfl rfl rfl (Nat.le_of_ble_eq_true rfl) d_Ck_takeUpLatest_12 ⟨Nat.zero_le _, Nat.zero_le _⟩ ?_
      generalize hq2 : s_Pg_stepAt psz x1 = r2
      refine x_lets ?_
      cases r2 with
      | none =>
        dsimp only [x_rv]
        refine x_astore_nN (lv' := [(2, .null), (0, (.ref (ad (4, 0)))), (1, (.int x1))]) C d_Ck_takeUpLatest_15 rfl (by decide) rfl ?_
        refine x_aload_n 1 C d_Ck_takeUpLatest_16 rfl rfl ?_
        refine x_get (i := (4, 0)) (v := (.ref (ad (12, 0)))) 5 C m_4 rfl rfl i_Ck (by decide) (List.mem_cons_of_mem _ q_139) rfl d_Ck_takeUpLatest_17 ?_
        refine x_iload_n 2 C d_Ck_takeUpLatest_20 rfl rfl ?_
        refine x_zald (i := (12, 0)) (g := opn) 2 C m_12 rfl rfl (x_ldI hv z1) d_Ck_takeUpLatest_21 ?_
        refine x_if_eq 54 C d_Ck_takeUpLatest_22 (by decide) (fun z3 => ?_) (fun z3 => ?_)
        · refine x_iinc (lv' := [(1, (.int (x1 + (-1)))), (2, .null), (0, (.ref (ad (4, 0))))]) 2 C d_Ck_takeUpLatest_54 rfl rfl (by decide) rfl ?_
          refine x_goto 3 C d_Ck_takeUpLatest_57 (by decide) ?_
          refine x_loc (lv' := [(0, (.ref (ad (4, 0)))), (1, (.int (x1 + (-1))))]) [2, 0] rfl ?_
          exact ih gk gl gh opn (x1 + (-1)) (x_ldS hv z1)
        · refine x_aload_nN 0 C d_Ck_takeUpLatest_25 rfl rfl ?_
          refine x_ifnullN 54 C d_Ck_takeUpLatest_26 (by decide) ?_
          refine x_iinc (lv' := [(1, (.int (x1 + (-1)))), (2, .null), (0, (.ref (ad (4, 0))))]) 2 C d_Ck_takeUpLatest_54 rfl rfl (by decide) rfl ?_
          refine x_goto 3 C d_Ck_takeUpLatest_57 (by decide) ?_
          refine x_loc (lv' := [(0, (.ref (ad (4, 0)))), (1, (.int (x1 + (-1))))]) [2, 0] rfl ?_
          exact ih gk gl gh opn (x1 + (-1)) (x_ldS hv z1)
      | some j2 =>
        dsimp only [x_rv]
        have hj2 : j2 < 24 := r_Pg_stepAt hq2
        refine x_astore_n (lv' := [(2, (.ref (ad (3, j2)))), (0, (.ref (ad (4, 0)))), (1, (.int x1))]) C d_Ck_takeUpLatest_15 rfl (by decide) rfl ?_
        refine x_aload_n 1 C d_Ck_takeUpLatest_16 rfl rfl ?_
        refine x_get (i := (4, 0)) (v := (.ref (ad (12, 0)))) 5 C m_4 rfl rfl i_Ck (by decide) (List.mem_cons_of_mem _ q_139) rfl d_Ck_takeUpLatest_17 ?_
        refine x_iload_n 2 C d_Ck_takeUpLatest_20 rfl rfl ?_
        refine x_zald (i := (12, 0)) (g := opn) 2 C m_12 rfl rfl (r2_Pg_stepAt hq2) d_Ck_takeUpLatest_21 ?_
        refine x_if_eq 54 C d_Ck_takeUpLatest_22 (by decide) (fun z4 => ?_) (fun z4 => ?_)
        · refine x_iinc (lv' := [(1, (.int (x1 + (-1)))), (2, (.ref (ad (3, j2)))), (0, (.ref (ad (4, 0))))]) 2 C d_Ck_takeUpLatest_54 rfl rfl (by decide) rfl ?_
          refine x_goto 3 C d_Ck_takeUpLatest_57 (by decide) ?_
          refine x_loc (lv' := [(0, (.ref (ad (4, 0)))), (1, (.int (x1 + (-1))))]) [2, 0] rfl ?_
          exact ih gk gl gh opn (x1 + (-1)) (x_ldS hv z1)
        · refine x_aload_n 0 C d_Ck_takeUpLatest_25 rfl rfl ?_
          refine x_ifnullR C d_Ck_takeUpLatest_26 ?_
          refine x_aload_n 1 C d_Ck_takeUpLatest_29 rfl rfl ?_
          refine x_get (i := (4, 0)) (v := (.ref (ad (12, 0)))) 5 C m_4 rfl rfl i_Ck (by decide) (List.mem_cons_of_mem _ q_139) rfl d_Ck_takeUpLatest_30 ?_
          refine x_iload_n 2 C d_Ck_takeUpLatest_33 rfl rfl ?_
          refine x_iconst (v := 0) C d_Ck_takeUpLatest_34 (by decide) ?_
          refine x_zast (i := (12, 0)) (g := opn) (f' := x_F ad cA ((stp, psz, gk, gl, gh, upd opn x1.toNatClampNeg (vp_nar .boolean 0), cki, ckl, mp, rk, rv, ri, chk), (mo, mi, ml, mk, mlo, mhi, pk, ps, pl, ph, mm), out)) 2 C m_12 rfl rfl (r2_Pg_stepAt hq2) d_Ck_takeUpLatest_35 e_opn ?_
          refine x_aload_n 1 C d_Ck_takeUpLatest_36 rfl rfl ?_
          refine x_get (i := (4, 0)) (v := (.ref (ad (5, 0)))) 1 C m_4 rfl rfl i_Ck (by decide) (List.mem_cons_of_mem _ q_135) rfl d_Ck_takeUpLatest_37 ?_
          refine x_aload_n 1 C d_Ck_takeUpLatest_40 rfl rfl ?_
          refine x_get (i := (4, 0)) (v := (.ref (ad (11, 0)))) 4 C m_4 rfl rfl i_Ck (by decide) (List.mem_cons_of_mem _ q_138) rfl d_Ck_takeUpLatest_41 ?_
          refine x_iload_n 2 C d_Ck_takeUpLatest_44 rfl rfl ?_
          refine x_aald (i := (11, 0)) 4 C m_11 rfl rfl (r2_Pg_stepAt hq2) d_Ck_takeUpLatest_45 ?_
          refine x_cv0 (i := (5, 0)) (F := x_F ad cA) (As := [(.ref (ad (5, x1.toNatClampNeg + 1)))]) (rest := []) C k_Gs_become q_557 (c_Gs_become ok 0 (by decide) (x1.toNatClampNeg + 1) (x_lt1 (r2_Pg_stepAt hq2))) rfl rfl rfl (Nat.le_of_ble_eq_true rfl) (Nat.le_of_ble_eq_true rfl) (m_5 (by decide)) rfl rfl rfl rfl rfl (Nat.le_of_ble_eq_true rfl) d_Ck_takeUpLatest_46 ⟨Nat.zero_le _, Nat.zero_le _⟩ ?_
          generalize hq5 : s_Gs_become gk gl gh 0 (x1.toNatClampNeg + 1) = q5
          obtain ⟨gk5, gl5, gh5⟩ := q5
          refine x_lets ?_
          dsimp only
          refine x_aload_n 0 C d_Ck_takeUpLatest_49 rfl rfl ?_
          refine x_get (i := (3, j2)) (v := (.int (stp j2 4))) 4 C (m_3 hj2) rfl rfl i_St (by decide) (List.mem_cons_of_mem _ q_67) rfl d_Ck_takeUpLatest_50 ?_
          exact x_iret C hr hlk rfl d_Ck_takeUpLatest_53
def s_Ck_takeUpLatest (stp : Nat → Nat → Int32) (psz : Int32) (gk : Nat → Nat → Int32) (gl : Nat → Nat → Int64) (gh : Nat → Nat → Int64) (opn : Nat → Int32)  : Int32 × (Nat → Nat → Int32) × (Nat → Nat → Int64) × (Nat → Nat → Int64) × (Nat → Int32) :=
  lp_Ck_takeUpLatest_3 25 stp psz gk gl gh opn 23
set_option maxHeartbeats 4000000 in
set_option maxRecDepth 100000 in
theorem c_Ck_takeUpLatest {l : Launch} {D : va_G} {cA : Nat → ClassId} {ad : x_I → Nat} (ok : x_ok (x_k D cA ad)) {stp : Nat → Nat → Int32} {psz : Int32} {gk : Nat → Nat → Int32} {gl : Nat → Nat → Int64} {gh : Nat → Nat → Int64} {opn : Nat → Int32} {cki : Nat → Int32} {ckl : Nat → Int64} {mp : Nat → Nat → Int64} {rk : Nat → Int32} {rv : Nat → Int64} {ri : Nat → Int32} {chk : Int32} {mo : Nat → Nat → Int32} {mi : Nat → Int32} {ml : Nat → Int64} {mk : Nat → Int32} {mlo : Nat → Int64} {mhi : Nat → Int64} {pk : Nat → Int32} {ps : Nat → Int32} {pl : Nat → Int64} {ph : Nat → Int64} {mm : Nat → Int64} {out : Nat → Int64}  : x_M l y_Ck_takeUpLatest (Cond.code y_Ck_takeUpLatest b_Ck_takeUpLatest 3 (Option.some Jvm.ClassFile.FieldType.int) :: x_Wd) { frames := 2, cells := 0, slots := 0, locals := 81 } (x_k D cA ad) (x_F ad cA) [(.ref (ad (4, 0)))] ((stp, psz, gk, gl, gh, opn, cki, ckl, mp, rk, rv, ri, chk), (mo, mi, ml, mk, mlo, mhi, pk, ps, pl, ph, mm), out) ((fun q : Int32 × (Nat → Nat → Int32) × (Nat → Nat → Int64) × (Nat → Nat → Int64) × (Nat → Int32) => ((some (.int (q.1)), ((stp, psz, q.2.1, q.2.2.1, q.2.2.2.1, q.2.2.2.2, cki, ckl, mp, rk, rv, ri, chk), (mo, mi, ml, mk, mlo, mhi, pk, ps, pl, ph, mm), out)) : Option Value × x_S)) (s_Ck_takeUpLatest stp psz gk gl gh opn)) 0 0 := by
  refine x_start (κ := x_k D cA ad) (cc := b_Ck_takeUpLatest) (F := x_F ad cA) (wr := (fun q : Int32 × (Nat → Nat → Int32) × (Nat → Nat → Int64) × (Nat → Nat → Int64) × (Nat → Int32) => ((some (.int (q.1)), ((stp, psz, q.2.1, q.2.2.1, q.2.2.2.1, q.2.2.2.2, cki, ckl, mp, rk, rv, ri, chk), (mo, mi, ml, mk, mlo, mhi, pk, ps, pl, ph, mm), out)) : Option Value × x_S))) (q := s_Ck_takeUpLatest stp psz gk gl gh opn) (ret := (Option.some Jvm.ClassFile.FieldType.int)) (lv0 := [(0, (.ref (ad (4, 0))))]) ok (by decide) rfl (Nat.le_of_ble_eq_true rfl) rfl ?_
  intro p e s m below meth c C hr hlk
  unfold s_Ck_takeUpLatest
  refine x_bipush (v := 23) C d_Ck_takeUpLatest_0 (by decide) ?_
  refine x_istore_n (lv' := [(1, (.int 23)), (0, (.ref (ad (4, 0))))]) C d_Ck_takeUpLatest_2 rfl (by decide) rfl ?_
  refine x_loc (lv' := [(0, (.ref (ad (4, 0)))), (1, (.int 23))]) [1, 0] rfl ?_
  exact cl_Ck_takeUpLatest_3 ok C hr hlk  25 gk gl gh opn 23 ⟨by decide, by decide, by decide⟩
def s_Ck_lookAt (stp : Nat → Nat → Int32) (psz : Int32) (gk : Nat → Nat → Int32) (gl : Nat → Nat → Int64) (gh : Nat → Nat → Int64) (opn : Nat → Int32) (cki : Nat → Int32) (ckl : Nat → Int64) (a1 : Int32) : Int32 × (Nat → Nat → Int32) × (Nat → Nat → Int64) × (Nat → Nat → Int64) × (Nat → Int32) × (Nat → Int32) × (Nat → Int64) :=
  (x_let (s_Pg_stepAt psz a1) fun r1 => match r1 with | none => (x_let (s_Jg_reasonAgainst_n a1) fun r2 => (x_let (s_Ck_reject cki r2 a1) fun cki3 => ((-1), gk, gl, gh, opn, cki3, ckl))) | some j1 => (x_let (s_Jg_reasonAgainst stp psz gk gl gh j1 a1) fun r4 => (if r4 = 0 then (if (stp j1 0) = 17 then (x_let (s_Gs_lo gl 0 0) fun r7 => (x_let (s_Gs_hi gh 0 0) fun r8 => (x_let (s_Ck_growOutcomes cki ckl r7 r8) fun (cki9, ckl9) => (x_let (s_Ck_takeUpLatest stp psz gk gl gh opn) fun (r10, gk10, gl10, gh10, opn10) => (r10, gk10, gl10, gh10, opn10, cki9, ckl9))))) else (x_let (s_St_mayJump stp j1) fun r11 => (if r11 = 0 then (x_let (s_Ef_follow stp gk gl gh j1) fun (gk13, gl13, gh13) => (a1 + 1, gk13, gl13, gh13, opn, cki, ckl)) else (x_let (s_Ck_fork stp gk gl gh opn j1 a1) fun (r14, gk14, gl14, gh14, opn14) => (r14, gk14, gl14, gh14, opn14, cki, ckl))))) else (x_let (s_Ck_reject cki r4 a1) fun cki15 => ((-1), gk, gl, gh, opn, cki15, ckl)))))
set_option maxHeartbeats 4000000 in
set_option maxRecDepth 100000 in
theorem c_Ck_lookAt {l : Launch} {D : va_G} {cA : Nat → ClassId} {ad : x_I → Nat} (ok : x_ok (x_k D cA ad)) {stp : Nat → Nat → Int32} {psz : Int32} {gk : Nat → Nat → Int32} {gl : Nat → Nat → Int64} {gh : Nat → Nat → Int64} {opn : Nat → Int32} {cki : Nat → Int32} {ckl : Nat → Int64} {mp : Nat → Nat → Int64} {rk : Nat → Int32} {rv : Nat → Int64} {ri : Nat → Int32} {chk : Int32} {mo : Nat → Nat → Int32} {mi : Nat → Int32} {ml : Nat → Int64} {mk : Nat → Int32} {mlo : Nat → Int64} {mhi : Nat → Int64} {pk : Nat → Int32} {ps : Nat → Int32} {pl : Nat → Int64} {ph : Nat → Int64} {mm : Nat → Int64} {out : Nat → Int64} (a1 : Int32) (hw : x_wf stp) : x_M l y_Ck_lookAt (Cond.code y_Ck_lookAt b_Ck_lookAt 4 (Option.some Jvm.ClassFile.FieldType.int) :: x_Wd) { frames := 5, cells := 0, slots := 0, locals := 106 } (x_k D cA ad) (x_F ad cA) [(.ref (ad (4, 0))), (.int a1)] ((stp, psz, gk, gl, gh, opn, cki, ckl, mp, rk, rv, ri, chk), (mo, mi, ml, mk, mlo, mhi, pk, ps, pl, ph, mm), out) ((fun q : Int32 × (Nat → Nat → Int32) × (Nat → Nat → Int64) × (Nat → Nat → Int64) × (Nat → Int32) × (Nat → Int32) × (Nat → Int64) => ((some (.int (q.1)), ((stp, psz, q.2.1, q.2.2.1, q.2.2.2.1, q.2.2.2.2.1, q.2.2.2.2.2.1, q.2.2.2.2.2.2, mp, rk, rv, ri, chk), (mo, mi, ml, mk, mlo, mhi, pk, ps, pl, ph, mm), out)) : Option Value × x_S)) (s_Ck_lookAt stp psz gk gl gh opn cki ckl a1)) 0 0 := by
  refine x_start (κ := x_k D cA ad) (cc := b_Ck_lookAt) (F := x_F ad cA) (wr := (fun q : Int32 × (Nat → Nat → Int32) × (Nat → Nat → Int64) × (Nat → Nat → Int64) × (Nat → Int32) × (Nat → Int32) × (Nat → Int64) => ((some (.int (q.1)), ((stp, psz, q.2.1, q.2.2.1, q.2.2.2.1, q.2.2.2.2.1, q.2.2.2.2.2.1, q.2.2.2.2.2.2, mp, rk, rv, ri, chk), (mo, mi, ml, mk, mlo, mhi, pk, ps, pl, ph, mm), out)) : Option Value × x_S))) (q := s_Ck_lookAt stp psz gk gl gh opn cki ckl a1) (ret := (Option.some Jvm.ClassFile.FieldType.int)) (lv0 := [(0, (.ref (ad (4, 0)))), (1, (.int a1))]) ok (by decide) rfl (Nat.le_of_ble_eq_true rfl) rfl ?_
  intro p e s m below meth c C hr hlk
  unfold s_Ck_lookAt
  refine x_aload_n 0 C d_Ck_lookAt_0 rfl rfl ?_
  refine x_get (i := (4, 0)) (v := (.ref (ad (1, 0)))) 0 C m_4 rfl rfl i_Ck (by decide) (List.mem_cons_of_mem _ q_134) rfl d_Ck_lookAt_1 ?_
  refine x_iload_n 1 C d_Ck_lookAt_4 rfl rfl ?_
  refine x_cv (i := (1, 0)) (F := x_F ad cA) (As := [(.int a1)]) (rest := []) C k_Pg_stepAt q_429 (c_Pg_stepAt ok a1) rfl rfl rfl (Nat.le_of_ble_eq_true rfl) (Nat.le_of_ble_eq_true rfl) m_1 rfl rfl rfl rfl rfl (Nat.le_of_ble_eq_true rfl) d_Ck_lookAt_5 ⟨Nat.zero_le _, Nat.zero_le _⟩ ?_
  generalize hq1 : s_Pg_stepAt psz a1 = r1
  refine x_lets ?_
  cases r1 with
  | none =>
    dsimp only [x_rv]
    refine x_astore_nN (lv' := [(2, .null), (0, (.ref (ad (4, 0)))), (1, (.int a1))]) C d_Ck_lookAt_8 rfl (by decide) rfl ?_
    refine x_aload_n 1 C d_Ck_lookAt_9 rfl rfl ?_
    refine x_get (i := (4, 0)) (v := (.ref (ad (9, 0)))) 2 C m_4 rfl rfl i_Ck (by decide) (List.mem_cons_of_mem _ q_136) rfl d_Ck_lookAt_10 ?_
    refine x_aload_nN 0 C d_Ck_lookAt_13 rfl rfl ?_
    refine x_iload_n 2 C d_Ck_lookAt_14 rfl rfl ?_
    refine x_cv (i := (9, 0)) (F := x_F ad cA) (As := [.null, (.int a1)]) (rest := []) C k_Jg_reasonAgainst q_430 (c_Jg_reasonAgainst_n ok a1) rfl rfl rfl (Nat.le_of_ble_eq_true rfl) (Nat.le_of_ble_eq_true rfl) m_9 rfl rfl rfl rfl rfl (Nat.le_of_ble_eq_true rfl) d_Ck_lookAt_15 ⟨Nat.zero_le _, Nat.zero_le _⟩ ?_
    generalize hq2 : s_Jg_reasonAgainst_n a1 = r2
    refine x_lets ?_
    refine x_istore_n (lv' := [(3, (.int r2)), (2, .null), (0, (.ref (ad (4, 0)))), (1, (.int a1))]) C d_Ck_lookAt_18 rfl (by decide) rfl ?_
    refine x_aload_nN 1 C d_Ck_lookAt_19 rfl rfl ?_
    refine x_ifnullN 27 C d_Ck_lookAt_20 (by decide) ?_
    refine x_aload_n 2 C d_Ck_lookAt_27 rfl rfl ?_
    refine x_iload_n 0 C d_Ck_lookAt_28 rfl rfl ?_
    refine x_iload_n 3 C d_Ck_lookAt_29 rfl rfl ?_
    refine x_cv0 (i := (4, 0)) (F := x_F ad cA) (As := [(.int r2), (.int a1)]) (rest := []) C k_Ck_reject q_537 (c_Ck_reject ok r2 a1) rfl rfl rfl (Nat.le_of_ble_eq_true rfl) (Nat.le_of_ble_eq_true rfl) m_4 rfl rfl rfl rfl rfl (Nat.le_of_ble_eq_true rfl) d_Ck_lookAt_30 ⟨Nat.zero_le _, Nat.zero_le _⟩ ?_
    generalize hq3 : s_Ck_reject cki r2 a1 = cki3
    refine x_lets ?_
    refine x_iconst (v := (-1)) C d_Ck_lookAt_33 (by decide) ?_
    exact x_iret C hr hlk rfl d_Ck_lookAt_34
  | some j1 =>
    dsimp only [x_rv]
    have hj1 : j1 < 24 := r_Pg_stepAt hq1
    refine x_astore_n (lv' := [(2, (.ref (ad (3, j1)))), (0, (.ref (ad (4, 0)))), (1, (.int a1))]) C d_Ck_lookAt_8 rfl (by decide) rfl ?_
    refine x_aload_n 1 C d_Ck_lookAt_9 rfl rfl ?_
    refine x_get (i := (4, 0)) (v := (.ref (ad (9, 0)))) 2 C m_4 rfl rfl i_Ck (by decide) (List.mem_cons_of_mem _ q_136) rfl d_Ck_lookAt_10 ?_
    refine x_aload_n 0 C d_Ck_lookAt_13 rfl rfl ?_
    refine x_iload_n 2 C d_Ck_lookAt_14 rfl rfl ?_
    refine x_cv (i := (9, 0)) (F := x_F ad cA) (As := [(.ref (ad (3, j1))), (.int a1)]) (rest := []) C k_Jg_reasonAgainst q_430 (c_Jg_reasonAgainst ok j1 hj1 a1 hw) rfl rfl rfl (Nat.le_of_ble_eq_true rfl) (Nat.le_of_ble_eq_true rfl) m_9 rfl rfl rfl rfl rfl (Nat.le_of_ble_eq_true rfl) d_Ck_lookAt_15 ⟨Nat.zero_le _, Nat.zero_le _⟩ ?_
    generalize hq4 : s_Jg_reasonAgainst stp psz gk gl gh j1 a1 = r4
    refine x_lets ?_
    refine x_istore_n (lv' := [(3, (.int r4)), (2, (.ref (ad (3, j1)))), (0, (.ref (ad (4, 0)))), (1, (.int a1))]) C d_Ck_lookAt_18 rfl (by decide) rfl ?_
    refine x_aload_n 1 C d_Ck_lookAt_19 rfl rfl ?_
    refine x_ifnullR C d_Ck_lookAt_20 ?_
    refine x_iload_n 0 C d_Ck_lookAt_23 rfl rfl ?_
    refine x_if_eq 35 C d_Ck_lookAt_24 (by decide) (fun z5 => ?_) (fun z5 => ?_)
    · refine x_aload_n 1 C d_Ck_lookAt_35 rfl rfl ?_
      refine x_get (i := (3, j1)) (v := (.int (stp j1 0))) 0 C (m_3 hj1) rfl rfl i_St (by decide) (List.mem_cons_of_mem _ q_47) rfl d_Ck_lookAt_36 ?_
      refine x_bipush (v := 17) C d_Ck_lookAt_39 (by decide) ?_
      refine x_icmp_ne 69 C d_Ck_lookAt_41 (by decide) (fun z6 => ?_) (fun z6 => ?_)
      · refine x_aload_n 2 C d_Ck_lookAt_44 rfl rfl ?_
        refine x_aload_n 2 C d_Ck_lookAt_45 rfl rfl ?_
        refine x_get (i := (4, 0)) (v := (.ref (ad (5, 0)))) 1 C m_4 rfl rfl i_Ck (by decide) (List.mem_cons_of_mem _ q_135) rfl d_Ck_lookAt_46 ?_
        refine x_iconst (v := 0) C d_Ck_lookAt_49 (by decide) ?_
        refine x_cv (i := (5, 0)) (F := x_F ad cA) (As := [(.int 0)]) (rest := [(.ref (ad (4, 0)))]) C k_Gs_lo q_541 (c_Gs_lo ok 0 (by decide) 0 (x_vin (by decide))) rfl rfl rfl (Nat.le_of_ble_eq_true rfl) (Nat.le_of_ble_eq_true rfl) (m_5 (by decide)) rfl rfl rfl rfl rfl (Nat.le_of_ble_eq_true rfl) d_Ck_lookAt_50 ⟨Nat.zero_le _, Nat.zero_le _⟩ ?_
        generalize hq7 : s_Gs_lo gl 0 0 = r7
        refine x_lets ?_
        refine x_aload_n 2 C d_Ck_lookAt_53 rfl rfl ?_
        refine x_get (i := (4, 0)) (v := (.ref (ad (5, 0)))) 1 C m_4 rfl rfl i_Ck (by decide) (List.mem_cons_of_mem _ q_135) rfl d_Ck_lookAt_54 ?_
        refine x_iconst (v := 0) C d_Ck_lookAt_57 (by decide) ?_
        refine x_cv (i := (5, 0)) (F := x_F ad cA) (As := [(.int 0)]) (rest := [(.long r7), (.ref (ad (4, 0)))]) C k_Gs_hi q_542 (c_Gs_hi ok 0 (by decide) 0 (x_vin (by decide))) rfl rfl rfl (Nat.le_of_ble_eq_true rfl) (Nat.le_of_ble_eq_true rfl) (m_5 (by decide)) rfl rfl rfl rfl rfl (Nat.le_of_ble_eq_true rfl) d_Ck_lookAt_58 ⟨Nat.zero_le _, Nat.zero_le _⟩ ?_
        generalize hq8 : s_Gs_hi gh 0 0 = r8
        refine x_lets ?_
        refine x_cv0 (i := (4, 0)) (F := x_F ad cA) (As := [(.long r7), (.long r8)]) (rest := []) C k_Ck_growOutcomes q_543 (c_Ck_growOutcomes ok r7 r8) rfl rfl rfl (Nat.le_of_ble_eq_true rfl) (Nat.le_of_ble_eq_true rfl) m_4 rfl rfl rfl rfl rfl (Nat.le_of_ble_eq_true rfl) d_Ck_lookAt_61 ⟨Nat.zero_le _, Nat.zero_le _⟩ ?_
        generalize hq9 : s_Ck_growOutcomes cki ckl r7 r8 = q9
        obtain ⟨cki9, ckl9⟩ := q9
        refine x_lets ?_
        dsimp only
        refine x_aload_n 2 C d_Ck_lookAt_64 rfl rfl ?_
        refine x_cv (i := (4, 0)) (F := x_F ad cA) (As := []) (rest := []) C k_Ck_takeUpLatest q_553 (c_Ck_takeUpLatest ok) rfl rfl rfl (Nat.le_of_ble_eq_true rfl) (Nat.le_of_ble_eq_true rfl) m_4 rfl rfl rfl rfl rfl (Nat.le_of_ble_eq_true rfl) d_Ck_lookAt_65 ⟨Nat.zero_le _, Nat.zero_le _⟩ ?_
        generalize hq10 : s_Ck_takeUpLatest stp psz gk gl gh opn = q10
        obtain ⟨r10, gk10, gl10, gh10, opn10⟩ := q10
        refine x_lets ?_
        dsimp only
        exact x_iret C hr hlk rfl d_Ck_lookAt_68
      · refine x_aload_n 1 C d_Ck_lookAt_69 rfl rfl ?_
        refine x_cv (i := (3, j1)) (F := x_F ad cA) (As := []) (rest := []) C k_St_mayJump q_564 (c_St_mayJump ok j1 hj1) rfl rfl rfl (Nat.le_of_ble_eq_true rfl) (Nat.le_of_ble_eq_true rfl) (m_3 hj1) rfl rfl rfl rfl rfl (Nat.le_of_ble_eq_true rfl) d_Ck_lookAt_70 ⟨Nat.zero_le _, Nat.zero_le _⟩ ?_
        generalize hq11 : s_St_mayJump stp j1 = r11
        refine x_lets ?_
        refine x_if_eq 83 C d_Ck_lookAt_73 (by decide) (fun z12 => ?_) (fun z12 => ?_)
        · refine x_aload_n 2 C d_Ck_lookAt_83 rfl rfl ?_
          refine x_get (i := (4, 0)) (v := (.ref (ad (10, 0)))) 3 C m_4 rfl rfl i_Ck (by decide) (List.mem_cons_of_mem _ q_137) rfl d_Ck_lookAt_84 ?_
          refine x_aload_n 1 C d_Ck_lookAt_87 rfl rfl ?_
          refine x_cv0 (i := (10, 0)) (F := x_F ad cA) (As := [(.ref (ad (3, j1)))]) (rest := []) C k_Ef_follow q_594 (c_Ef_follow ok j1 hj1 hw) rfl rfl rfl (Nat.le_of_ble_eq_true rfl) (Nat.le_of_ble_eq_true rfl) m_10 rfl rfl rfl rfl rfl (Nat.le_of_ble_eq_true rfl) d_Ck_lookAt_88 ⟨Nat.zero_le _, Nat.zero_le _⟩ ?_
          generalize hq13 : s_Ef_follow stp gk gl gh j1 = q13
          obtain ⟨gk13, gl13, gh13⟩ := q13
          refine x_lets ?_
          dsimp only
          refine x_iload_n 3 C d_Ck_lookAt_91 rfl rfl ?_
          refine x_iconst (v := 1) C d_Ck_lookAt_92 (by decide) ?_
          refine x_iadd C d_Ck_lookAt_93 ?_
          exact x_iret C hr hlk rfl d_Ck_lookAt_94
        · refine x_aload_n 2 C d_Ck_lookAt_76 rfl rfl ?_
          refine x_aload_n 1 C d_Ck_lookAt_77 rfl rfl ?_
          refine x_iload_n 3 C d_Ck_lookAt_78 rfl rfl ?_
          refine x_cv (i := (4, 0)) (F := x_F ad cA) (As := [(.ref (ad (3, j1))), (.int a1)]) (rest := []) C k_Ck_fork q_565 (c_Ck_fork ok j1 hj1 a1 (r2_Pg_stepAt hq1) hw) rfl rfl rfl (Nat.le_of_ble_eq_true rfl) (Nat.le_of_ble_eq_true rfl) m_4 rfl rfl rfl rfl rfl (Nat.le_of_ble_eq_true rfl) d_Ck_lookAt_79 ⟨Nat.zero_le _, Nat.zero_le _⟩ ?_
          generalize hq14 : s_Ck_fork stp gk gl gh opn j1 a1 = q14
          obtain ⟨r14, gk14, gl14, gh14, opn14⟩ := q14
          refine x_lets ?_
          dsimp only
          exact x_iret C hr hlk rfl d_Ck_lookAt_82
    · refine x_aload_n 2 C d_Ck_lookAt_27 rfl rfl ?_
      refine x_iload_n 0 C d_Ck_lookAt_28 rfl rfl ?_
      refine x_iload_n 3 C d_Ck_lookAt_29 rfl rfl ?_
      refine x_cv0 (i := (4, 0)) (F := x_F ad cA) (As := [(.int r4), (.int a1)]) (rest := []) C k_Ck_reject q_537 (c_Ck_reject ok r4 a1) rfl rfl rfl (Nat.le_of_ble_eq_true rfl) (Nat.le_of_ble_eq_true rfl) m_4 rfl rfl rfl rfl rfl (Nat.le_of_ble_eq_true rfl) d_Ck_lookAt_30 ⟨Nat.zero_le _, Nat.zero_le _⟩ ?_
      generalize hq15 : s_Ck_reject cki r4 a1 = cki15
      refine x_lets ?_
      refine x_iconst (v := (-1)) C d_Ck_lookAt_33 (by decide) ?_
      exact x_iret C hr hlk rfl d_Ck_lookAt_34
def lp_Ck_goDownAllWays_8 (n : Nat) (stp : Nat → Nat → Int32) (psz : Int32) (gk : Nat → Nat → Int32) (gl : Nat → Nat → Int64) (gh : Nat → Nat → Int64) (opn : Nat → Int32) (cki : Nat → Int32) (ckl : Nat → Int64)  (x1 : Int32) (x2 : Int32) : Int32 × (Nat → Nat → Int32) × (Nat → Nat → Int64) × (Nat → Nat → Int64) × (Nat → Int32) × (Nat → Int32) × (Nat → Int64) := match n with
  | 0 => (0, gk, gl, gh, opn, cki, ckl)
  | n + 1 => (if 300 ≤ x2 then (if x1 = (-1) then (cki 0, gk, gl, gh, opn, cki, ckl) else ((upd cki 0 2) 0, gk, gl, gh, opn, upd cki 0 2, ckl)) else (if x1 = (-1) then (if x1 = (-1) then (cki 0, gk, gl, gh, opn, cki, ckl) else ((upd cki 0 2) 0, gk, gl, gh, opn, upd cki 0 2, ckl)) else (x_let (s_Ck_lookAt stp psz gk gl gh opn (upd cki 1 ((cki 1) + 1)) ckl x1) fun (r6, gk6, gl6, gh6, opn6, cki6, ckl6) => lp_Ck_goDownAllWays_8 n stp psz gk6 gl6 gh6 opn6 cki6 ckl6 r6 (x2 + 1))))
set_option maxHeartbeats 4000000 in
set_option maxRecDepth 100000 in
theorem cl_Ck_goDownAllWays_8 {l : Launch} {D : va_G} {cA : Nat → ClassId} {ad : x_I → Nat} (ok : x_ok (x_k D cA ad)) {stp : Nat → Nat → Int32} {psz : Int32} {mp : Nat → Nat → Int64} {rk : Nat → Int32} {rv : Nat → Int64} {ri : Nat → Int32} {chk : Int32} {mo : Nat → Nat → Int32} {mi : Nat → Int32} {ml : Nat → Int64} {mk : Nat → Int32} {mlo : Nat → Int64} {mhi : Nat → Int64} {pk : Nat → Int32} {ps : Nat → Int32} {pl : Nat → Int64} {ph : Nat → Int64} {mm : Nat → Int64} {out : Nat → Int64} {p : Program} {e : Env} {s : State} {m : MethodId} {args : Array Value} {below : List Frame} {meth : Method} {c : Code} (C : x_C p s m args c b_Ck_goDownAllWays 3 R_Ck (Cond.code y_Ck_goDownAllWays b_Ck_goDownAllWays 3 (Option.some Jvm.ClassFile.FieldType.int) :: x_Wd) (x_k D cA ad)) (hr : meth.sig.returnType = (Option.some Jvm.ClassFile.FieldType.int)) (hlk : meth.locks = false) (hw : x_wf stp) : ∀ (n : Nat) (gk : Nat → Nat → Int32) (gl : Nat → Nat → Int64) (gh : Nat → Nat → Int64) (opn : Nat → Int32) (cki : Nat → Int32) (ckl : Nat → Int64) (x1 : Int32) (x2 : Int32) (hv : x_lp x2 300 n), x_V p l e { frames := 6, cells := 0, slots := 0, locals := 129 } s m args below meth c (x_k D cA ad) 3 0 0 (x_E below (x_k D cA ad) args s 0 0 (x_F ad cA) (fun q : Int32 × (Nat → Nat → Int32) × (Nat → Nat → Int64) × (Nat → Nat → Int64) × (Nat → Int32) × (Nat → Int32) × (Nat → Int64) => ((some (.int (q.1)), ((stp, psz, q.2.1, q.2.2.1, q.2.2.2.1, q.2.2.2.2.1, q.2.2.2.2.2.1, q.2.2.2.2.2.2, mp, rk, rv, ri, chk), (mo, mi, ml, mk, mlo, mhi, pk, ps, pl, ph, mm), out)) : Option Value × x_S)) (lp_Ck_goDownAllWays_8 n stp psz gk gl gh opn cki ckl x1 x2)) (x_F ad cA ((stp, psz, gk, gl, gh, opn, cki, ckl, mp, rk, rv, ri, chk), (mo, mi, ml, mk, mlo, mhi, pk, ps, pl, ph, mm), out)) 8 [(0, (.ref (ad (4, 0)))), (1, (.int x1)), (2, (.int x2))] [] := by
  intro n
  induction n with
  | zero => intro gk gl gh opn cki ckl x1 x2 hv; exact absurd hv x_lp0
  | succ n ih =>
    intro gk gl gh opn cki ckl x1 x2 hv
    rw [lp_Ck_goDownAllWays_8]
    refine x_iload_n 2 C d_Ck_goDownAllWays_8 rfl rfl ?_
    refine x_sipush (v := 300) C d_Ck_goDownAllWays_9 (by decide) ?_
    refine x_icmp_ge 42 C d_Ck_goDownAllWays_12 (by decide) (fun z2 => ?_) (fun z2 => ?_)
    · refine x_iload_n 1 C d_Ck_goDownAllWays_42 rfl rfl ?_
      refine x_iconst (v := (-1)) C d_Ck_goDownAllWays_43 (by decide) ?_
      refine x_icmp_eq 52 C d_Ck_goDownAllWays_44 (by decide) (fun z3 => ?_) (fun z3 => ?_)
      · refine x_aload_n 0 C d_Ck_goDownAllWays_52 rfl rfl ?_
        refine x_get (i := (4, 0)) (v := (.int (cki 0))) 6 C m_4 rfl rfl i_Ck (by decide) (List.mem_cons_of_mem _ q_140) rfl d_Ck_goDownAllWays_53 ?_
        exact x_iret C hr hlk rfl d_Ck_goDownAllWays_56
      · refine x_aload_n 0 C d_Ck_goDownAllWays_47 rfl rfl ?_
        refine x_iconst (v := 2) C d_Ck_goDownAllWays_48 (by decide) ?_
        refine x_put (i := (4, 0)) (f' := x_F ad cA ((stp, psz, gk, gl, gh, opn, upd cki 0 2, ckl, mp, rk, rv, ri, chk), (mo, mi, ml, mk, mlo, mhi, pk, ps, pl, ph, mm), out)) 6 C m_4 rfl rfl i_Ck t_Ck_ok n_Ck (by decide) (List.mem_cons_of_mem _ q_140) rfl rfl rfl (Nat.le_of_ble_eq_true rfl) d_Ck_goDownAllWays_49 e_cki0 ?_
        refine x_aload_n 0 C d_Ck_goDownAllWays_52 rfl rfl ?_
        refine x_get (i := (4, 0)) (v := (.int ((upd cki 0 2) 0))) 6 C m_4 rfl rfl i_Ck (by decide) (List.mem_cons_of_mem _ q_140) rfl d_Ck_goDownAllWays_53 ?_
        exact x_iret C hr hlk rfl d_Ck_goDownAllWays_56
    · refine x_iload_n 1 C d_Ck_goDownAllWays_15 rfl rfl ?_
      refine x_iconst (v := (-1)) C d_Ck_goDownAllWays_16 (by decide) ?_
      refine x_icmp_eq 42 C d_Ck_goDownAllWays_17 (by decide) (fun z4 => ?_) (fun z4 => ?_)
      · refine x_iload_n 1 C d_Ck_goDownAllWays_42 rfl rfl ?_
        refine x_iconst (v := (-1)) C d_Ck_goDownAllWays_43 (by decide) ?_
        refine x_icmp_eq 52 C d_Ck_goDownAllWays_44 (by decide) (fun z5 => ?_) (fun z5 => ?_)
        · refine x_aload_n 0 C d_Ck_goDownAllWays_52 rfl rfl ?_
          refine x_get (i := (4, 0)) (v := (.int (cki 0))) 6 C m_4 rfl rfl i_Ck (by decide) (List.mem_cons_of_mem _ q_140) rfl d_Ck_goDownAllWays_53 ?_
          exact x_iret C hr hlk rfl d_Ck_goDownAllWays_56
        · refine x_aload_n 0 C d_Ck_goDownAllWays_47 rfl rfl ?_
          refine x_iconst (v := 2) C d_Ck_goDownAllWays_48 (by decide) ?_
          refine x_put (i := (4, 0)) (f' := x_F ad cA ((stp, psz, gk, gl, gh, opn, upd cki 0 2, ckl, mp, rk, rv, ri, chk), (mo, mi, ml, mk, mlo, mhi, pk, ps, pl, ph, mm), out)) 6 C m_4 rfl rfl i_Ck t_Ck_ok n_Ck (by decide) (List.mem_cons_of_mem _ q_140) rfl rfl rfl (Nat.le_of_ble_eq_true rfl) d_Ck_goDownAllWays_49 e_cki0 ?_
          refine x_aload_n 0 C d_Ck_goDownAllWays_52 rfl rfl ?_
          refine x_get (i := (4, 0)) (v := (.int ((upd cki 0 2) 0))) 6 C m_4 rfl rfl i_Ck (by decide) (List.mem_cons_of_mem _ q_140) rfl d_Ck_goDownAllWays_53 ?_
          exact x_iret C hr hlk rfl d_Ck_goDownAllWays_56
      · refine x_aload_n 0 C d_Ck_goDownAllWays_20 rfl rfl ?_
        refine x_dup C d_Ck_goDownAllWays_21 rfl ?_
        refine x_get (i := (4, 0)) (v := (.int (cki 1))) 7 C m_4 rfl rfl i_Ck (by decide) (List.mem_cons_of_mem _ q_141) rfl d_Ck_goDownAllWays_22 ?_
        refine x_iconst (v := 1) C d_Ck_goDownAllWays_25 (by decide) ?_
        refine x_iadd C d_Ck_goDownAllWays_26 ?_
        refine x_put (i := (4, 0)) (f' := x_F ad cA ((stp, psz, gk, gl, gh, opn, upd cki 1 ((cki 1) + 1), ckl, mp, rk, rv, ri, chk), (mo, mi, ml, mk, mlo, mhi, pk, ps, pl, ph, mm), out)) 7 C m_4 rfl rfl i_Ck t_Ck_ok n_Ck (by decide) (List.mem_cons_of_mem _ q_141) rfl rfl rfl (Nat.le_of_ble_eq_true rfl) d_Ck_goDownAllWays_27 e_cki1 ?_
        refine x_aload_n 0 C d_Ck_goDownAllWays_30 rfl rfl ?_
        refine x_iload_n 1 C d_Ck_goDownAllWays_31 rfl rfl ?_
        refine x_cv (i := (4, 0)) (F := x_F ad cA) (As := [(.int x1)]) (rest := []) C k_Ck_lookAt q_425 (c_Ck_lookAt ok x1 hw) rfl rfl rfl (Nat.le_of_ble_eq_true rfl) (Nat.le_of_ble_eq_true rfl) m_4 rfl rfl rfl rfl rfl (Nat.le_of_ble_eq_true rfl) d_Ck_goDownAllWays_32 ⟨Nat.zero_le _, Nat.zero_le _⟩ ?_
        generalize hq6 : s_Ck_lookAt stp psz gk gl gh opn (upd cki 1 ((cki 1) + 1)) ckl x1 = q6
        obtain ⟨r6, gk6, gl6, gh6, opn6, cki6, ckl6⟩ := q6
        refine x_lets ?_
        dsimp only
        refine x_istore_n (lv' := [(1, (.int r6)), (0, (.ref (ad (4, 0)))), (2, (.int x2))]) C d_Ck_goDownAllWays_35 rfl (by decide) rfl ?_
        refine x_iinc (lv' := [(2, (.int (x2 + 1))), (1, (.int r6)), (0, (.ref (ad (4, 0))))]) 2 C d_Ck_goDownAllWays_36 rfl rfl (by decide) rfl ?_
        refine x_goto 8 C d_Ck_goDownAllWays_39 (by decide) ?_
        refine x_loc (lv' := [(0, (.ref (ad (4, 0)))), (1, (.int r6)), (2, (.int (x2 + 1)))]) [2, 1, 0] rfl ?_
        exact ih gk6 gl6 gh6 opn6 cki6 ckl6 r6 (x2 + 1) (x_lpS hv z2 (by decide) (by decide))
def s_Ck_goDownAllWays (stp : Nat → Nat → Int32) (psz : Int32) (gk : Nat → Nat → Int32) (gl : Nat → Nat → Int64) (gh : Nat → Nat → Int64) (opn : Nat → Int32) (cki : Nat → Int32) (ckl : Nat → Int64)  : Int32 × (Nat → Nat → Int32) × (Nat → Nat → Int64) × (Nat → Nat → Int64) × (Nat → Int32) × (Nat → Int32) × (Nat → Int64) :=
  (x_let (s_Ck_begin gk gl gh opn cki) fun (gk1, gl1, gh1, opn1, cki1) => lp_Ck_goDownAllWays_8 301 stp psz gk1 gl1 gh1 opn1 cki1 ckl 0 0)
set_option maxHeartbeats 4000000 in
set_option maxRecDepth 100000 in
theorem c_Ck_goDownAllWays {l : Launch} {D : va_G} {cA : Nat → ClassId} {ad : x_I → Nat} (ok : x_ok (x_k D cA ad)) {stp : Nat → Nat → Int32} {psz : Int32} {gk : Nat → Nat → Int32} {gl : Nat → Nat → Int64} {gh : Nat → Nat → Int64} {opn : Nat → Int32} {cki : Nat → Int32} {ckl : Nat → Int64} {mp : Nat → Nat → Int64} {rk : Nat → Int32} {rv : Nat → Int64} {ri : Nat → Int32} {chk : Int32} {mo : Nat → Nat → Int32} {mi : Nat → Int32} {ml : Nat → Int64} {mk : Nat → Int32} {mlo : Nat → Int64} {mhi : Nat → Int64} {pk : Nat → Int32} {ps : Nat → Int32} {pl : Nat → Int64} {ph : Nat → Int64} {mm : Nat → Int64} {out : Nat → Int64} (hw : x_wf stp) : x_M l y_Ck_goDownAllWays (Cond.code y_Ck_goDownAllWays b_Ck_goDownAllWays 3 (Option.some Jvm.ClassFile.FieldType.int) :: x_Wd) { frames := 6, cells := 0, slots := 0, locals := 129 } (x_k D cA ad) (x_F ad cA) [(.ref (ad (4, 0)))] ((stp, psz, gk, gl, gh, opn, cki, ckl, mp, rk, rv, ri, chk), (mo, mi, ml, mk, mlo, mhi, pk, ps, pl, ph, mm), out) ((fun q : Int32 × (Nat → Nat → Int32) × (Nat → Nat → Int64) × (Nat → Nat → Int64) × (Nat → Int32) × (Nat → Int32) × (Nat → Int64) => ((some (.int (q.1)), ((stp, psz, q.2.1, q.2.2.1, q.2.2.2.1, q.2.2.2.2.1, q.2.2.2.2.2.1, q.2.2.2.2.2.2, mp, rk, rv, ri, chk), (mo, mi, ml, mk, mlo, mhi, pk, ps, pl, ph, mm), out)) : Option Value × x_S)) (s_Ck_goDownAllWays stp psz gk gl gh opn cki ckl)) 0 0 := by
  refine x_start (κ := x_k D cA ad) (cc := b_Ck_goDownAllWays) (F := x_F ad cA) (wr := (fun q : Int32 × (Nat → Nat → Int32) × (Nat → Nat → Int64) × (Nat → Nat → Int64) × (Nat → Int32) × (Nat → Int32) × (Nat → Int64) => ((some (.int (q.1)), ((stp, psz, q.2.1, q.2.2.1, q.2.2.2.1, q.2.2.2.2.1, q.2.2.2.2.2.1, q.2.2.2.2.2.2, mp, rk, rv, ri, chk), (mo, mi, ml, mk, mlo, mhi, pk, ps, pl, ph, mm), out)) : Option Value × x_S))) (q := s_Ck_goDownAllWays stp psz gk gl gh opn cki ckl) (ret := (Option.some Jvm.ClassFile.FieldType.int)) (lv0 := [(0, (.ref (ad (4, 0))))]) ok (by decide) rfl (Nat.le_of_ble_eq_true rfl) rfl ?_
  intro p e s m below meth c C hr hlk
  unfold s_Ck_goDownAllWays
  refine x_aload_n 0 C d_Ck_goDownAllWays_0 rfl rfl ?_
  refine x_cv0 (i := (4, 0)) (F := x_F ad cA) (As := []) (rest := []) C k_Ck_begin q_403 (c_Ck_begin ok) rfl rfl rfl (Nat.le_of_ble_eq_true rfl) (Nat.le_of_ble_eq_true rfl) m_4 rfl rfl rfl rfl rfl (Nat.le_of_ble_eq_true rfl) d_Ck_goDownAllWays_1 ⟨Nat.zero_le _, Nat.zero_le _⟩ ?_
  generalize hq1 : s_Ck_begin gk gl gh opn cki = q1
  obtain ⟨gk1, gl1, gh1, opn1, cki1⟩ := q1
  refine x_lets ?_
  dsimp only
  refine x_iconst (v := 0) C d_Ck_goDownAllWays_4 (by decide) ?_
  refine x_istore_n (lv' := [(1, (.int 0)), (0, (.ref (ad (4, 0))))]) C d_Ck_goDownAllWays_5 rfl (by decide) rfl ?_
  refine x_iconst (v := 0) C d_Ck_goDownAllWays_6 (by decide) ?_
  refine x_istore_n (lv' := [(2, (.int 0)), (1, (.int 0)), (0, (.ref (ad (4, 0))))]) C d_Ck_goDownAllWays_7 rfl (by decide) rfl ?_
  refine x_loc (lv' := [(0, (.ref (ad (4, 0)))), (1, (.int 0)), (2, (.int 0))]) [2, 1, 0] rfl ?_
  exact cl_Ck_goDownAllWays_8 ok C hr hlk hw 301 gk1 gl1 gh1 opn1 cki1 ckl 0 0 ⟨by decide, by decide, by decide⟩
