def lp_Gs_begin_2 (n : Nat) (gk : Nat → Nat → Int32) (gl : Nat → Nat → Int64) (gh : Nat → Nat → Int64) (i : Nat) (x1 : Int32) : (Nat → Nat → Int32) × (Nat → Nat → Int64) × (Nat → Nat → Int64) := match n with
  | 0 => (gk, gl, gh)
  | n + 1 => (if 12 ≤ x1 then (x_let (s_Gs_setAny gk gl gh i 1) fun (gk2, gl2, gh2) => (x_let (s_Gs_set gk2 gl2 gh2 i 2 2 0 0) fun (gk3, gl3, gh3) => (gk3, gl3, gh3))) else (x_let (s_Gs_clear gk gl gh i x1) fun (gk4, gl4, gh4) => lp_Gs_begin_2 n gk4 gl4 gh4 i (x1 + 1)))
set_option maxHeartbeats 4000000 in
set_option maxRecDepth 100000 in
theorem cl_Gs_begin_2 {l : Launch} {D : va_G} {cA : Nat → ClassId} {ad : x_I → Nat} (ok : x_ok (x_k D cA ad)) {stp : Nat → Nat → Int32} {psz : Int32} {opn : Nat → Int32} {cki : Nat → Int32} {ckl : Nat → Int64} {mp : Nat → Nat → Int64} {rk : Nat → Int32} {rv : Nat → Int64} {ri : Nat → Int32} {chk : Int32} {mo : Nat → Nat → Int32} {mi : Nat → Int32} {ml : Nat → Int64} {mk : Nat → Int32} {mlo : Nat → Int64} {mhi : Nat → Int64} {pk : Nat → Int32} {ps : Nat → Int32} {pl : Nat → Int64} {ph : Nat → Int64} {mm : Nat → Int64} {out : Nat → Int64} {p : Program} {e : Env} {s : State} {m : MethodId} {args : Array Value} {below : List Frame} {meth : Method} {c : Code} (C : x_C p s m args c b_Gs_begin 2 R_Gs (Cond.code y_Gs_begin b_Gs_begin 2 (Option.none : Option Jvm.ClassFile.FieldType) :: x_Wd) (x_k D cA ad)) (hr : meth.sig.returnType = (Option.none : Option Jvm.ClassFile.FieldType)) (hlk : meth.locks = false) (i : Nat) (hi : i < 25) : ∀ (n : Nat) (gk : Nat → Nat → Int32) (gl : Nat → Nat → Int64) (gh : Nat → Nat → Int64) (x1 : Int32) (hv : x_lp x1 12 n), x_V p l e { frames := 2, cells := 0, slots := 0, locals := 47 } s m args below meth c (x_k D cA ad) 2 0 0 (x_E below (x_k D cA ad) args s 0 0 (x_F ad cA) (fun q : (Nat → Nat → Int32) × (Nat → Nat → Int64) × (Nat → Nat → Int64) => ((none, ((stp, psz, q.1, q.2.1, q.2.2, opn, cki, ckl, mp, rk, rv, ri, chk), (mo, mi, ml, mk, mlo, mhi, pk, ps, pl, ph, mm), out)) : Option Value × x_S)) (lp_Gs_begin_2 n gk gl gh i x1)) (x_F ad cA ((stp, psz, gk, gl, gh, opn, cki, ckl, mp, rk, rv, ri, chk), (mo, mi, ml, mk, mlo, mhi, pk, ps, pl, ph, mm), out)) 2 [(0, (.ref (ad (5, i)))), (1, (.int x1))] [] := by
  intro n
  induction n with
  | zero => intro gk gl gh x1 hv; exact absurd hv x_lp0
  | succ n ih =>
    intro gk gl gh x1 hv
    rw [lp_Gs_begin_2]
    refine x_iload_n 1 C d_Gs_begin_2 rfl rfl ?_
    refine x_bipush (v := 12) C d_Gs_begin_3 (by decide) ?_
    refine x_icmp_ge 19 C d_Gs_begin_5 (by decide) (fun z1 => ?_) (fun z1 => ?_)
    · refine x_aload_n 0 C d_Gs_begin_19 rfl rfl ?_
      refine x_iconst (v := 1) C d_Gs_begin_20 (by decide) ?_
      refine x_cv0 (i := (5, i)) (F := x_F ad cA) (As := [(.int 1)]) (rest := []) C k_Gs_setAny q_419 (c_Gs_setAny ok i hi 1 (x_vin (by decide))) rfl rfl rfl (Nat.le_of_ble_eq_true rfl) (Nat.le_of_ble_eq_true rfl) (m_5 hi) rfl rfl rfl rfl rfl (Nat.le_of_ble_eq_true rfl) d_Gs_begin_21 ⟨Nat.zero_le _, Nat.zero_le _⟩ ?_
      generalize hq2 : s_Gs_setAny gk gl gh i 1 = q2
      obtain ⟨gk2, gl2, gh2⟩ := q2
      refine x_lets ?_
      dsimp only
      refine x_aload_n 0 C d_Gs_begin_24 rfl rfl ?_
      refine x_iconst (v := 2) C d_Gs_begin_25 (by decide) ?_
      refine x_iconst (v := 2) C d_Gs_begin_26 (by decide) ?_
      refine x_lconst (v := 0) C d_Gs_begin_27 (by decide) ?_
      refine x_lconst (v := 0) C d_Gs_begin_28 (by decide) ?_
      refine x_cv0 (i := (5, i)) (F := x_F ad cA) (As := [(.int 2), (.int 2), (.long 0), (.long 0)]) (rest := []) C k_Gs_set q_415 (c_Gs_set ok i hi 2 2 0 0 (x_vin (by decide))) rfl rfl rfl (Nat.le_of_ble_eq_true rfl) (Nat.le_of_ble_eq_true rfl) (m_5 hi) rfl rfl rfl rfl rfl (Nat.le_of_ble_eq_true rfl) d_Gs_begin_29 ⟨Nat.zero_le _, Nat.zero_le _⟩ ?_
      generalize hq3 : s_Gs_set gk2 gl2 gh2 i 2 2 0 0 = q3
      obtain ⟨gk3, gl3, gh3⟩ := q3
      refine x_lets ?_
      dsimp only
      exact x_vret C hr hlk rfl d_Gs_begin_32
    · refine x_aload_n 0 C d_Gs_begin_8 rfl rfl ?_
      refine x_iload_n 1 C d_Gs_begin_9 rfl rfl ?_
      refine x_cv0 (i := (5, i)) (F := x_F ad cA) (As := [(.int x1)]) (rest := []) C k_Gs_clear q_411 (c_Gs_clear ok i hi x1 (x_lpI hv z1 (by decide))) rfl rfl rfl (Nat.le_of_ble_eq_true rfl) (Nat.le_of_ble_eq_true rfl) (m_5 hi) rfl rfl rfl rfl rfl (Nat.le_of_ble_eq_true rfl) d_Gs_begin_10 ⟨Nat.zero_le _, Nat.zero_le _⟩ ?_
      generalize hq4 : s_Gs_clear gk gl gh i x1 = q4
      obtain ⟨gk4, gl4, gh4⟩ := q4
      refine x_lets ?_
      dsimp only
      refine x_iinc (lv' := [(1, (.int (x1 + 1))), (0, (.ref (ad (5, i))))]) 1 C d_Gs_begin_13 rfl rfl (by decide) rfl ?_
      refine x_goto 2 C d_Gs_begin_16 (by decide) ?_
      refine x_loc (lv' := [(0, (.ref (ad (5, i)))), (1, (.int (x1 + 1)))]) [1, 0] rfl ?_
      exact ih gk4 gl4 gh4 (x1 + 1) (x_lpS hv z1 (by decide) (by decide))
def s_Gs_begin (gk : Nat → Nat → Int32) (gl : Nat → Nat → Int64) (gh : Nat → Nat → Int64) (i : Nat) : (Nat → Nat → Int32) × (Nat → Nat → Int64) × (Nat → Nat → Int64) :=
  lp_Gs_begin_2 13 gk gl gh i 0
set_option maxHeartbeats 4000000 in
set_option maxRecDepth 100000 in
theorem c_Gs_begin {l : Launch} {D : va_G} {cA : Nat → ClassId} {ad : x_I → Nat} (ok : x_ok (x_k D cA ad)) {stp : Nat → Nat → Int32} {psz : Int32} {gk : Nat → Nat → Int32} {gl : Nat → Nat → Int64} {gh : Nat → Nat → Int64} {opn : Nat → Int32} {cki : Nat → Int32} {ckl : Nat → Int64} {mp : Nat → Nat → Int64} {rk : Nat → Int32} {rv : Nat → Int64} {ri : Nat → Int32} {chk : Int32} {mo : Nat → Nat → Int32} {mi : Nat → Int32} {ml : Nat → Int64} {mk : Nat → Int32} {mlo : Nat → Int64} {mhi : Nat → Int64} {pk : Nat → Int32} {ps : Nat → Int32} {pl : Nat → Int64} {ph : Nat → Int64} {mm : Nat → Int64} {out : Nat → Int64} (i : Nat) (hi : i < 25) : x_M l y_Gs_begin (Cond.code y_Gs_begin b_Gs_begin 2 (Option.none : Option Jvm.ClassFile.FieldType) :: x_Wd) { frames := 2, cells := 0, slots := 0, locals := 47 } (x_k D cA ad) (x_F ad cA) [(.ref (ad (5, i)))] ((stp, psz, gk, gl, gh, opn, cki, ckl, mp, rk, rv, ri, chk), (mo, mi, ml, mk, mlo, mhi, pk, ps, pl, ph, mm), out) ((fun q : (Nat → Nat → Int32) × (Nat → Nat → Int64) × (Nat → Nat → Int64) => ((none, ((stp, psz, q.1, q.2.1, q.2.2, opn, cki, ckl, mp, rk, rv, ri, chk), (mo, mi, ml, mk, mlo, mhi, pk, ps, pl, ph, mm), out)) : Option Value × x_S)) (s_Gs_begin gk gl gh i)) 0 0 := by
  refine x_start (κ := x_k D cA ad) (cc := b_Gs_begin) (F := x_F ad cA) (wr := (fun q : (Nat → Nat → Int32) × (Nat → Nat → Int64) × (Nat → Nat → Int64) => ((none, ((stp, psz, q.1, q.2.1, q.2.2, opn, cki, ckl, mp, rk, rv, ri, chk), (mo, mi, ml, mk, mlo, mhi, pk, ps, pl, ph, mm), out)) : Option Value × x_S))) (q := s_Gs_begin gk gl gh i) (ret := (Option.none : Option Jvm.ClassFile.FieldType)) (lv0 := [(0, (.ref (ad (5, i))))]) ok (by decide) rfl (Nat.le_of_ble_eq_true rfl) rfl ?_
  intro p e s m below meth c C hr hlk
  unfold s_Gs_begin
  refine x_iconst (v := 0) C d_Gs_begin_0 (by decide) ?_
  refine x_istore_n (lv' := [(1, (.int 0)), (0, (.ref (ad (5, i))))]) C d_Gs_begin_1 rfl (by decide) rfl ?_
  refine x_loc (lv' := [(0, (.ref (ad (5, i)))), (1, (.int 0))]) [1, 0] rfl ?_
  exact cl_Gs_begin_2 ok C hr hlk i hi 13 gk gl gh 0 ⟨by decide, by decide, by decide⟩
def s_Gs_become (gk : Nat → Nat → Int32) (gl : Nat → Nat → Int64) (gh : Nat → Nat → Int64) (i : Nat) (o : Nat) : (Nat → Nat → Int32) × (Nat → Nat → Int64) × (Nat → Nat → Int64) :=
  (va_up gk i (va_cpy (gk o) (gk i) 0 0 (Int32.toNatClampNeg 12)), va_up gl i (va_cpy (gl o) (gl i) 0 0 (Int32.toNatClampNeg 12)), va_up gh i (va_cpy (gh o) (gh i) 0 0 (Int32.toNatClampNeg 12)))
set_option maxHeartbeats 4000000 in
set_option maxRecDepth 100000 in
theorem c_Gs_become {l : Launch} {D : va_G} {cA : Nat → ClassId} {ad : x_I → Nat} (ok : x_ok (x_k D cA ad)) {stp : Nat → Nat → Int32} {psz : Int32} {gk : Nat → Nat → Int32} {gl : Nat → Nat → Int64} {gh : Nat → Nat → Int64} {opn : Nat → Int32} {cki : Nat → Int32} {ckl : Nat → Int64} {mp : Nat → Nat → Int64} {rk : Nat → Int32} {rv : Nat → Int64} {ri : Nat → Int32} {chk : Int32} {mo : Nat → Nat → Int32} {mi : Nat → Int32} {ml : Nat → Int64} {mk : Nat → Int32} {mlo : Nat → Int64} {mhi : Nat → Int64} {pk : Nat → Int32} {ps : Nat → Int32} {pl : Nat → Int64} {ph : Nat → Int64} {mm : Nat → Int64} {out : Nat → Int64} (i : Nat) (hi : i < 25) (o : Nat) (ho : o < 25) : x_M l y_Gs_become (Cond.code y_Gs_become b_Gs_become 2 (Option.none : Option Jvm.ClassFile.FieldType) :: x_Wd) { frames := 1, cells := 0, slots := 0, locals := 60 } (x_k D cA ad) (x_F ad cA) [(.ref (ad (5, i))), (.ref (ad (5, o)))] ((stp, psz, gk, gl, gh, opn, cki, ckl, mp, rk, rv, ri, chk), (mo, mi, ml, mk, mlo, mhi, pk, ps, pl, ph, mm), out) ((fun q : (Nat → Nat → Int32) × (Nat → Nat → Int64) × (Nat → Nat → Int64) => ((none, ((stp, psz, q.1, q.2.1, q.2.2, opn, cki, ckl, mp, rk, rv, ri, chk), (mo, mi, ml, mk, mlo, mhi, pk, ps, pl, ph, mm), out)) : Option Value × x_S)) (s_Gs_become gk gl gh i o)) 0 0 := by
  refine x_start (κ := x_k D cA ad) (cc := b_Gs_become) (F := x_F ad cA) (wr := (fun q : (Nat → Nat → Int32) × (Nat → Nat → Int64) × (Nat → Nat → Int64) => ((none, ((stp, psz, q.1, q.2.1, q.2.2, opn, cki, ckl, mp, rk, rv, ri, chk), (mo, mi, ml, mk, mlo, mhi, pk, ps, pl, ph, mm), out)) : Option Value × x_S))) (q := s_Gs_become gk gl gh i o) (ret := (Option.none : Option Jvm.ClassFile.FieldType)) (lv0 := [(0, (.ref (ad (5, i)))), (1, (.ref (ad (5, o))))]) ok (by decide) rfl (Nat.le_of_ble_eq_true rfl) rfl ?_
  intro p e s m below meth c C hr hlk
  unfold s_Gs_become
  refine x_aload_n 1 C d_Gs_become_0 rfl rfl ?_
  refine x_get (i := (5, o)) (v := (.ref (ad (6, o)))) 0 C (m_5 ho) rfl rfl i_Gs (by decide) (List.mem_cons_of_mem _ q_98) rfl d_Gs_become_1 ?_
  refine x_iconst (v := 0) C d_Gs_become_4 (by decide) ?_
  refine x_aload_n 0 C d_Gs_become_5 rfl rfl ?_
  refine x_get (i := (5, i)) (v := (.ref (ad (6, i)))) 0 C (m_5 hi) rfl rfl i_Gs (by decide) (List.mem_cons_of_mem _ q_98) rfl d_Gs_become_6 ?_
  refine x_iconst (v := 0) C d_Gs_become_9 (by decide) ?_
  refine x_bipush (v := 12) C d_Gs_become_10 (by decide) ?_
  refine x_copyi (i := (6, o)) (i' := (6, i)) (f' := x_F ad cA ((stp, psz, va_up gk i (va_cpy (gk o) (gk i) 0 0 (Int32.toNatClampNeg 12)), gl, gh, opn, cki, ckl, mp, rk, rv, ri, chk), (mo, mi, ml, mk, mlo, mhi, pk, ps, pl, ph, mm), out)) 0 C (List.mem_cons_of_mem _ q_561) (List.mem_cons_of_mem _ q_563) (List.mem_cons_of_mem _ q_562) (List.mem_cons_of_mem _ q_17) (m_6 ho) (m_6 hi) rfl rfl rfl (by decide) (by decide) (Nat.le_of_ble_eq_true rfl) (Nat.le_of_ble_eq_true rfl) d_Gs_become_12 e_gk ?_
  refine x_aload_n 1 C d_Gs_become_15 rfl rfl ?_
  refine x_get (i := (5, o)) (v := (.ref (ad (7, o)))) 1 C (m_5 ho) rfl rfl i_Gs (by decide) (List.mem_cons_of_mem _ q_99) rfl d_Gs_become_16 ?_
  refine x_iconst (v := 0) C d_Gs_become_19 (by decide) ?_
  refine x_aload_n 0 C d_Gs_become_20 rfl rfl ?_
  refine x_get (i := (5, i)) (v := (.ref (ad (7, i)))) 1 C (m_5 hi) rfl rfl i_Gs (by decide) (List.mem_cons_of_mem _ q_99) rfl d_Gs_become_21 ?_
  refine x_iconst (v := 0) C d_Gs_become_24 (by decide) ?_
  refine x_bipush (v := 12) C d_Gs_become_25 (by decide) ?_
  refine x_copyl (i := (7, o)) (i' := (7, i)) (f' := x_F ad cA ((stp, psz, va_up gk i (va_cpy (gk o) (gk i) 0 0 (Int32.toNatClampNeg 12)), va_up gl i (va_cpy (gl o) (gl i) 0 0 (Int32.toNatClampNeg 12)), gh, opn, cki, ckl, mp, rk, rv, ri, chk), (mo, mi, ml, mk, mlo, mhi, pk, ps, pl, ph, mm), out)) 1 C (List.mem_cons_of_mem _ q_561) (List.mem_cons_of_mem _ q_563) (List.mem_cons_of_mem _ q_562) (List.mem_cons_of_mem _ q_17) (m_7 ho) (m_7 hi) rfl rfl rfl (by decide) (by decide) (Nat.le_of_ble_eq_true rfl) (Nat.le_of_ble_eq_true rfl) d_Gs_become_27 e_gl ?_
  refine x_aload_n 1 C d_Gs_become_30 rfl rfl ?_
  refine x_get (i := (5, o)) (v := (.ref (ad (8, o)))) 2 C (m_5 ho) rfl rfl i_Gs (by decide) (List.mem_cons_of_mem _ q_100) rfl d_Gs_become_31 ?_
  refine x_iconst (v := 0) C d_Gs_become_34 (by decide) ?_
  refine x_aload_n 0 C d_Gs_become_35 rfl rfl ?_
  refine x_get (i := (5, i)) (v := (.ref (ad (8, i)))) 2 C (m_5 hi) rfl rfl i_Gs (by decide) (List.mem_cons_of_mem _ q_100) rfl d_Gs_become_36 ?_
  refine x_iconst (v := 0) C d_Gs_become_39 (by decide) ?_
  refine x_bipush (v := 12) C d_Gs_become_40 (by decide) ?_
  refine x_copyl (i := (8, o)) (i' := (8, i)) (f' := x_F ad cA ((stp, psz, va_up gk i (va_cpy (gk o) (gk i) 0 0 (Int32.toNatClampNeg 12)), va_up gl i (va_cpy (gl o) (gl i) 0 0 (Int32.toNatClampNeg 12)), va_up gh i (va_cpy (gh o) (gh i) 0 0 (Int32.toNatClampNeg 12)), opn, cki, ckl, mp, rk, rv, ri, chk), (mo, mi, ml, mk, mlo, mhi, pk, ps, pl, ph, mm), out)) 1 C (List.mem_cons_of_mem _ q_561) (List.mem_cons_of_mem _ q_563) (List.mem_cons_of_mem _ q_562) (List.mem_cons_of_mem _ q_17) (m_8 ho) (m_8 hi) rfl rfl rfl (by decide) (by decide) (Nat.le_of_ble_eq_true rfl) (Nat.le_of_ble_eq_true rfl) d_Gs_become_42 e_gh ?_
  exact x_vret C hr hlk rfl d_Gs_become_45
