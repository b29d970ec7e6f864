def s_Pg_isRegister (a1 : Int32) : Int32 :=
  (if a1 < 0 then (0) else (if 6 ≤ a1 then (0) else (1)))
set_option maxHeartbeats 4000000 in
set_option maxRecDepth 100000 in
theorem c_Pg_isRegister {l : Launch} {D : va_G} {cA : Nat → ClassId} {ad : x_I → Nat} (ok : x_ok (x_k D cA ad)) {stp : Nat → Nat → Int32} {psz : Int32} {gk : Nat → Nat → Int32} {gl : Nat → Nat → Int64} {gh : Nat → Nat → Int64} {opn : Nat → Int32} {cki : Nat → Int32} {ckl : Nat → Int64} {mp : Nat → Nat → Int64} {rk : Nat → Int32} {rv : Nat → Int64} {ri : Nat → Int32} {chk : Int32} {mo : Nat → Nat → Int32} {mi : Nat → Int32} {ml : Nat → Int64} {mk : Nat → Int32} {mlo : Nat → Int64} {mhi : Nat → Int64} {pk : Nat → Int32} {ps : Nat → Int32} {pl : Nat → Int64} {ph : Nat → Int64} {mm : Nat → Int64} {out : Nat → Int64} (a1 : Int32) : x_M l y_Pg_isRegister (Cond.code y_Pg_isRegister b_Pg_isRegister 1 (Option.some Jvm.ClassFile.FieldType.boolean) :: x_Wd) { frames := 0, cells := 0, slots := 0, locals := 0 } (x_k D cA ad) (x_F ad cA) [(.int a1)] ((stp, psz, gk, gl, gh, opn, cki, ckl, mp, rk, rv, ri, chk), (mo, mi, ml, mk, mlo, mhi, pk, ps, pl, ph, mm), out) ((fun q : Int32 => ((some (.int (q)), ((stp, psz, gk, gl, gh, opn, cki, ckl, mp, rk, rv, ri, chk), (mo, mi, ml, mk, mlo, mhi, pk, ps, pl, ph, mm), out)) : Option Value × x_S)) (s_Pg_isRegister a1)) 0 0 := by
  refine x_start (κ := x_k D cA ad) (cc := b_Pg_isRegister) (F := x_F ad cA) (wr := (fun q : Int32 => ((some (.int (q)), ((stp, psz, gk, gl, gh, opn, cki, ckl, mp, rk, rv, ri, chk), (mo, mi, ml, mk, mlo, mhi, pk, ps, pl, ph, mm), out)) : Option Value × x_S))) (q := s_Pg_isRegister a1) (ret := (Option.some Jvm.ClassFile.FieldType.boolean)) (lv0 := [(0, (.int a1))]) ok (by decide) rfl (Nat.le_of_ble_eq_true rfl) rfl ?_
  intro p e s m below meth c C hr hlk
  unfold s_Pg_isRegister
  refine x_iload_n 0 C d_Pg_isRegister_0 rfl rfl ?_
  refine x_if_lt 14 C d_Pg_isRegister_1 (by decide) (fun z1 => ?_) (fun z1 => ?_)
  · refine x_iconst (v := 0) C d_Pg_isRegister_14 (by decide) ?_
    exact x_zret C hr hlk rfl rfl d_Pg_isRegister_15
  · refine x_iload_n 0 C d_Pg_isRegister_4 rfl rfl ?_
    refine x_bipush (v := 6) C d_Pg_isRegister_5 (by decide) ?_
    refine x_icmp_ge 14 C d_Pg_isRegister_7 (by decide) (fun z2 => ?_) (fun z2 => ?_)
    · refine x_iconst (v := 0) C d_Pg_isRegister_14 (by decide) ?_
      exact x_zret C hr hlk rfl rfl d_Pg_isRegister_15
    · refine x_iconst (v := 1) C d_Pg_isRegister_10 (by decide) ?_
      refine x_goto 15 C d_Pg_isRegister_11 (by decide) ?_
      exact x_zret C hr hlk rfl rfl d_Pg_isRegister_15
def s_Pg_allows (a1 : Int32) (a2 : Int32) (a3 : Int32) (a4 : Int32) : Int32 :=
  (if a1 < 0 then (0) else (if 17 < a1 then (0) else (x_let (s_Pg_isRegister a2) fun r3 => (if r3 = 0 then (0) else (x_let (s_Pg_isRegister a3) fun r5 => (if r5 = 0 then (0) else (if a4 < 0 then (0) else (if 24 ≤ a4 then (0) else (1)))))))))
set_option maxHeartbeats 4000000 in
set_option maxRecDepth 100000 in
theorem c_Pg_allows {l : Launch} {D : va_G} {cA : Nat → ClassId} {ad : x_I → Nat} (ok : x_ok (x_k D cA ad)) {stp : Nat → Nat → Int32} {psz : Int32} {gk : Nat → Nat → Int32} {gl : Nat → Nat → Int64} {gh : Nat → Nat → Int64} {opn : Nat → Int32} {cki : Nat → Int32} {ckl : Nat → Int64} {mp : Nat → Nat → Int64} {rk : Nat → Int32} {rv : Nat → Int64} {ri : Nat → Int32} {chk : Int32} {mo : Nat → Nat → Int32} {mi : Nat → Int32} {ml : Nat → Int64} {mk : Nat → Int32} {mlo : Nat → Int64} {mhi : Nat → Int64} {pk : Nat → Int32} {ps : Nat → Int32} {pl : Nat → Int64} {ph : Nat → Int64} {mm : Nat → Int64} {out : Nat → Int64} (a1 : Int32) (a2 : Int32) (a3 : Int32) (a4 : Int32) : x_M l y_Pg_allows (Cond.code y_Pg_allows b_Pg_allows 4 (Option.some Jvm.ClassFile.FieldType.boolean) :: x_Wd) { frames := 1, cells := 0, slots := 0, locals := 20 } (x_k D cA ad) (x_F ad cA) [(.int a1), (.int a2), (.int a3), (.int a4)] ((stp, psz, gk, gl, gh, opn, cki, ckl, mp, rk, rv, ri, chk), (mo, mi, ml, mk, mlo, mhi, pk, ps, pl, ph, mm), out) ((fun q : Int32 => ((some (.int (q)), ((stp, psz, gk, gl, gh, opn, cki, ckl, mp, rk, rv, ri, chk), (mo, mi, ml, mk, mlo, mhi, pk, ps, pl, ph, mm), out)) : Option Value × x_S)) (s_Pg_allows a1 a2 a3 a4)) 0 0 := by
  refine x_start (κ := x_k D cA ad) (cc := b_Pg_allows) (F := x_F ad cA) (wr := (fun q : Int32 => ((some (.int (q)), ((stp, psz, gk, gl, gh, opn, cki, ckl, mp, rk, rv, ri, chk), (mo, mi, ml, mk, mlo, mhi, pk, ps, pl, ph, mm), out)) : Option Value × x_S))) (q := s_Pg_allows a1 a2 a3 a4) (ret := (Option.some Jvm.ClassFile.FieldType.boolean)) (lv0 := [(0, (.int a1)), (1, (.int a2)), (2, (.int a3)), (3, (.int a4))]) ok (by decide) rfl (Nat.le_of_ble_eq_true rfl) rfl ?_
  intro p e s m below meth c C hr hlk
  unfold s_Pg_allows
  refine x_iload_n 0 C d_Pg_allows_0 rfl rfl ?_
  refine x_if_lt 38 C d_Pg_allows_1 (by decide) (fun z1 => ?_) (fun z1 => ?_)
  · refine x_iconst (v := 0) C d_Pg_allows_38 (by decide) ?_
    exact x_zret C hr hlk rfl rfl d_Pg_allows_39
  · refine x_iload_n 0 C d_Pg_allows_4 rfl rfl ?_
    refine x_bipush (v := 17) C d_Pg_allows_5 (by decide) ?_
    refine x_icmp_gt 38 C d_Pg_allows_7 (by decide) (fun z2 => ?_) (fun z2 => ?_)
    · refine x_iconst (v := 0) C d_Pg_allows_38 (by decide) ?_
      exact x_zret C hr hlk rfl rfl d_Pg_allows_39
    · refine x_iload_n 1 C d_Pg_allows_10 rfl rfl ?_
      refine x_cs (F := x_F ad cA) (As := [(.int a2)]) (rest := []) C k_Pg_isRegister q_255 (c_Pg_isRegister ok a2) rfl rfl rfl (Nat.le_of_ble_eq_true rfl) (Nat.le_of_ble_eq_true rfl) rfl rfl (Nat.le_of_ble_eq_true rfl) d_Pg_allows_11 ⟨Nat.zero_le _, Nat.zero_le _⟩ ?_
      generalize hq3 : s_Pg_isRegister a2 = r3
      refine x_lets ?_
      refine x_if_eq 38 C d_Pg_allows_14 (by decide) (fun z4 => ?_) (fun z4 => ?_)
      · refine x_iconst (v := 0) C d_Pg_allows_38 (by decide) ?_
        exact x_zret C hr hlk rfl rfl d_Pg_allows_39
      · refine x_iload_n 2 C d_Pg_allows_17 rfl rfl ?_
        refine x_cs (F := x_F ad cA) (As := [(.int a3)]) (rest := []) C k_Pg_isRegister q_255 (c_Pg_isRegister ok a3) rfl rfl rfl (Nat.le_of_ble_eq_true rfl) (Nat.le_of_ble_eq_true rfl) rfl rfl (Nat.le_of_ble_eq_true rfl) d_Pg_allows_18 ⟨Nat.zero_le _, Nat.zero_le _⟩ ?_
        generalize hq5 : s_Pg_isRegister a3 = r5
        refine x_lets ?_
        refine x_if_eq 38 C d_Pg_allows_21 (by decide) (fun z6 => ?_) (fun z6 => ?_)
        · refine x_iconst (v := 0) C d_Pg_allows_38 (by decide) ?_
          exact x_zret C hr hlk rfl rfl d_Pg_allows_39
        · refine x_iload_n 3 C d_Pg_allows_24 rfl rfl ?_
          refine x_if_lt 38 C d_Pg_allows_25 (by decide) (fun z7 => ?_) (fun z7 => ?_)
          · refine x_iconst (v := 0) C d_Pg_allows_38 (by decide) ?_
            exact x_zret C hr hlk rfl rfl d_Pg_allows_39
          · refine x_iload_n 3 C d_Pg_allows_28 rfl rfl ?_
            refine x_bipush (v := 24) C d_Pg_allows_29 (by decide) ?_
            refine x_icmp_ge 38 C d_Pg_allows_31 (by decide) (fun z8 => ?_) (fun z8 => ?_)
            · refine x_iconst (v := 0) C d_Pg_allows_38 (by decide) ?_
              exact x_zret C hr hlk rfl rfl d_Pg_allows_39
            · refine x_iconst (v := 1) C d_Pg_allows_34 (by decide) ?_
              refine x_goto 39 C d_Pg_allows_35 (by decide) ?_
              exact x_zret C hr hlk rfl rfl d_Pg_allows_39
def s_Pg_size (psz : Int32)  : Int32 :=
  (psz)
set_option maxHeartbeats 4000000 in
set_option maxRecDepth 100000 in
theorem c_Pg_size {l : Launch} {D : va_G} {cA : Nat → ClassId} {ad : x_I → Nat} (ok : x_ok (x_k D cA ad)) {stp : Nat → Nat → Int32} {psz : Int32} {gk : Nat → Nat → Int32} {gl : Nat → Nat → Int64} {gh : Nat → Nat → Int64} {opn : Nat → Int32} {cki : Nat → Int32} {ckl : Nat → Int64} {mp : Nat → Nat → Int64} {rk : Nat → Int32} {rv : Nat → Int64} {ri : Nat → Int32} {chk : Int32} {mo : Nat → Nat → Int32} {mi : Nat → Int32} {ml : Nat → Int64} {mk : Nat → Int32} {mlo : Nat → Int64} {mhi : Nat → Int64} {pk : Nat → Int32} {ps : Nat → Int32} {pl : Nat → Int64} {ph : Nat → Int64} {mm : Nat → Int64} {out : Nat → Int64}  : x_M l y_Pg_size (Cond.code y_Pg_size b_Pg_size 1 (Option.some Jvm.ClassFile.FieldType.int) :: x_Wd) { frames := 0, cells := 0, slots := 0, locals := 0 } (x_k D cA ad) (x_F ad cA) [(.ref (ad (1, 0)))] ((stp, psz, gk, gl, gh, opn, cki, ckl, mp, rk, rv, ri, chk), (mo, mi, ml, mk, mlo, mhi, pk, ps, pl, ph, mm), out) ((fun q : Int32 => ((some (.int (q)), ((stp, psz, gk, gl, gh, opn, cki, ckl, mp, rk, rv, ri, chk), (mo, mi, ml, mk, mlo, mhi, pk, ps, pl, ph, mm), out)) : Option Value × x_S)) (s_Pg_size psz)) 0 0 := by
  refine x_start (κ := x_k D cA ad) (cc := b_Pg_size) (F := x_F ad cA) (wr := (fun q : Int32 => ((some (.int (q)), ((stp, psz, gk, gl, gh, opn, cki, ckl, mp, rk, rv, ri, chk), (mo, mi, ml, mk, mlo, mhi, pk, ps, pl, ph, mm), out)) : Option Value × x_S))) (q := s_Pg_size psz) (ret := (Option.some Jvm.ClassFile.FieldType.int)) (lv0 := [(0, (.ref (ad (1, 0))))]) ok (by decide) rfl (Nat.le_of_ble_eq_true rfl) rfl ?_
  intro p e s m below meth c C hr hlk
  unfold s_Pg_size
  refine x_aload_n 0 C d_Pg_size_0 rfl rfl ?_
  refine x_get (i := (1, 0)) (v := (.int psz)) 1 C m_1 rfl rfl i_Pg (by decide) (List.mem_cons_of_mem _ q_80) rfl d_Pg_size_1 ?_
  exact x_iret C hr hlk rfl d_Pg_size_4
def s_Pg_grow (psz : Int32)  : Int32 × Int32 :=
  (if 24 ≤ psz then (psz - 1, psz) else ((psz + 1) - 1, psz + 1))
set_option maxHeartbeats 4000000 in
set_option maxRecDepth 100000 in
theorem c_Pg_grow {l : Launch} {D : va_G} {cA : Nat → ClassId} {ad : x_I → Nat} (ok : x_ok (x_k D cA ad)) {stp : Nat → Nat → Int32} {psz : Int32} {gk : Nat → Nat → Int32} {gl : Nat → Nat → Int64} {gh : Nat → Nat → Int64} {opn : Nat → Int32} {cki : Nat → Int32} {ckl : Nat → Int64} {mp : Nat → Nat → Int64} {rk : Nat → Int32} {rv : Nat → Int64} {ri : Nat → Int32} {chk : Int32} {mo : Nat → Nat → Int32} {mi : Nat → Int32} {ml : Nat → Int64} {mk : Nat → Int32} {mlo : Nat → Int64} {mhi : Nat → Int64} {pk : Nat → Int32} {ps : Nat → Int32} {pl : Nat → Int64} {ph : Nat → Int64} {mm : Nat → Int64} {out : Nat → Int64}  : x_M l y_Pg_grow (Cond.code y_Pg_grow b_Pg_grow 1 (Option.some Jvm.ClassFile.FieldType.int) :: x_Wd) { frames := 0, cells := 0, slots := 0, locals := 0 } (x_k D cA ad) (x_F ad cA) [(.ref (ad (1, 0)))] ((stp, psz, gk, gl, gh, opn, cki, ckl, mp, rk, rv, ri, chk), (mo, mi, ml, mk, mlo, mhi, pk, ps, pl, ph, mm), out) ((fun q : Int32 × Int32 => ((some (.int (q.1)), ((stp, q.2, gk, gl, gh, opn, cki, ckl, mp, rk, rv, ri, chk), (mo, mi, ml, mk, mlo, mhi, pk, ps, pl, ph, mm), out)) : Option Value × x_S)) (s_Pg_grow psz)) 0 0 := by
  refine x_start (κ := x_k D cA ad) (cc := b_Pg_grow) (F := x_F ad cA) (wr := (fun q : Int32 × Int32 => ((some (.int (q.1)), ((stp, q.2, gk, gl, gh, opn, cki, ckl, mp, rk, rv, ri, chk), (mo, mi, ml, mk, mlo, mhi, pk, ps, pl, ph, mm), out)) : Option Value × x_S))) (q := s_Pg_grow psz) (ret := (Option.some Jvm.ClassFile.FieldType.int)) (lv0 := [(0, (.ref (ad (1, 0))))]) ok (by decide) rfl (Nat.le_of_ble_eq_true rfl) rfl ?_
  intro p e s m below meth c C hr hlk
  unfold s_Pg_grow
  refine x_aload_n 0 C d_Pg_grow_0 rfl rfl ?_
  refine x_get (i := (1, 0)) (v := (.int psz)) 1 C m_1 rfl rfl i_Pg (by decide) (List.mem_cons_of_mem _ q_80) rfl d_Pg_grow_1 ?_
  refine x_bipush (v := 24) C d_Pg_grow_4 (by decide) ?_
  refine x_icmp_ge 19 C d_Pg_grow_6 (by decide) (fun z1 => ?_) (fun z1 => ?_)
  · refine x_aload_n 0 C d_Pg_grow_19 rfl rfl ?_
    refine x_get (i := (1, 0)) (v := (.int psz)) 1 C m_1 rfl rfl i_Pg (by decide) (List.mem_cons_of_mem _ q_80) rfl d_Pg_grow_20 ?_
    refine x_iconst (v := 1) C d_Pg_grow_23 (by decide) ?_
    refine x_isub C d_Pg_grow_24 ?_
    exact x_iret C hr hlk rfl d_Pg_grow_25
  · refine x_aload_n 0 C d_Pg_grow_9 rfl rfl ?_
    refine x_dup C d_Pg_grow_10 rfl ?_
    refine x_get (i := (1, 0)) (v := (.int psz)) 1 C m_1 rfl rfl i_Pg (by decide) (List.mem_cons_of_mem _ q_80) rfl d_Pg_grow_11 ?_
    refine x_iconst (v := 1) C d_Pg_grow_14 (by decide) ?_
    refine x_iadd C d_Pg_grow_15 ?_
    refine x_put (i := (1, 0)) (f' := x_F ad cA ((stp, psz + 1, gk, gl, gh, opn, cki, ckl, mp, rk, rv, ri, chk), (mo, mi, ml, mk, mlo, mhi, pk, ps, pl, ph, mm), out)) 1 C m_1 rfl rfl i_Pg t_Pg_ok n_Pg (by decide) (List.mem_cons_of_mem _ q_80) rfl rfl rfl (Nat.le_of_ble_eq_true rfl) d_Pg_grow_16 e_psz ?_
    refine x_aload_n 0 C d_Pg_grow_19 rfl rfl ?_
    refine x_get (i := (1, 0)) (v := (.int (psz + 1))) 1 C m_1 rfl rfl i_Pg (by decide) (List.mem_cons_of_mem _ q_80) rfl d_Pg_grow_20 ?_
    refine x_iconst (v := 1) C d_Pg_grow_23 (by decide) ?_
    refine x_isub C d_Pg_grow_24 ?_
    exact x_iret C hr hlk rfl d_Pg_grow_25
def s_Pg_shorten (psz : Int32) (a1 : Int32) : Int32 :=
  (a1)
set_option maxHeartbeats 4000000 in
set_option maxRecDepth 100000 in
theorem c_Pg_shorten {l : Launch} {D : va_G} {cA : Nat → ClassId} {ad : x_I → Nat} (ok : x_ok (x_k D cA ad)) {stp : Nat → Nat → Int32} {psz : Int32} {gk : Nat → Nat → Int32} {gl : Nat → Nat → Int64} {gh : Nat → Nat → Int64} {opn : Nat → Int32} {cki : Nat → Int32} {ckl : Nat → Int64} {mp : Nat → Nat → Int64} {rk : Nat → Int32} {rv : Nat → Int64} {ri : Nat → Int32} {chk : Int32} {mo : Nat → Nat → Int32} {mi : Nat → Int32} {ml : Nat → Int64} {mk : Nat → Int32} {mlo : Nat → Int64} {mhi : Nat → Int64} {pk : Nat → Int32} {ps : Nat → Int32} {pl : Nat → Int64} {ph : Nat → Int64} {mm : Nat → Int64} {out : Nat → Int64} (a1 : Int32) : x_M l y_Pg_shorten (Cond.code y_Pg_shorten b_Pg_shorten 2 (Option.none : Option Jvm.ClassFile.FieldType) :: x_Wd) { frames := 0, cells := 0, slots := 0, locals := 0 } (x_k D cA ad) (x_F ad cA) [(.ref (ad (1, 0))), (.int a1)] ((stp, psz, gk, gl, gh, opn, cki, ckl, mp, rk, rv, ri, chk), (mo, mi, ml, mk, mlo, mhi, pk, ps, pl, ph, mm), out) ((fun q : Int32 => ((none, ((stp, q, gk, gl, gh, opn, cki, ckl, mp, rk, rv, ri, chk), (mo, mi, ml, mk, mlo, mhi, pk, ps, pl, ph, mm), out)) : Option Value × x_S)) (s_Pg_shorten psz a1)) 0 0 := by
  refine x_start (κ := x_k D cA ad) (cc := b_Pg_shorten) (F := x_F ad cA) (wr := (fun q : Int32 => ((none, ((stp, q, gk, gl, gh, opn, cki, ckl, mp, rk, rv, ri, chk), (mo, mi, ml, mk, mlo, mhi, pk, ps, pl, ph, mm), out)) : Option Value × x_S))) (q := s_Pg_shorten psz a1) (ret := (Option.none : Option Jvm.ClassFile.FieldType)) (lv0 := [(0, (.ref (ad (1, 0)))), (1, (.int a1))]) ok (by decide) rfl (Nat.le_of_ble_eq_true rfl) rfl ?_
  intro p e s m below meth c C hr hlk
  unfold s_Pg_shorten
  refine x_aload_n 0 C d_Pg_shorten_0 rfl rfl ?_
  refine x_iload_n 1 C d_Pg_shorten_1 rfl rfl ?_
  refine x_put (i := (1, 0)) (f' := x_F ad cA ((stp, a1, gk, gl, gh, opn, cki, ckl, mp, rk, rv, ri, chk), (mo, mi, ml, mk, mlo, mhi, pk, ps, pl, ph, mm), out)) 1 C m_1 rfl rfl i_Pg t_Pg_ok n_Pg (by decide) (List.mem_cons_of_mem _ q_80) rfl rfl rfl (Nat.le_of_ble_eq_true rfl) d_Pg_shorten_2 e_psz ?_
  exact x_vret C hr hlk rfl d_Pg_shorten_5
def s_Pg_stepAt (psz : Int32) (a1 : Int32) : (Option Nat) :=
  (if a1 < 0 then (none) else (if psz ≤ a1 then (none) else (if 24 ≤ a1 then (none) else ((some a1.toNatClampNeg)))))
set_option maxHeartbeats 4000000 in
set_option maxRecDepth 100000 in
theorem c_Pg_stepAt {l : Launch} {D : va_G} {cA : Nat → ClassId} {ad : x_I → Nat} (ok : x_ok (x_k D cA ad)) {stp : Nat → Nat → Int32} {psz : Int32} {gk : Nat → Nat → Int32} {gl : Nat → Nat → Int64} {gh : Nat → Nat → Int64} {opn : Nat → Int32} {cki : Nat → Int32} {ckl : Nat → Int64} {mp : Nat → Nat → Int64} {rk : Nat → Int32} {rv : Nat → Int64} {ri : Nat → Int32} {chk : Int32} {mo : Nat → Nat → Int32} {mi : Nat → Int32} {ml : Nat → Int64} {mk : Nat → Int32} {mlo : Nat → Int64} {mhi : Nat → Int64} {pk : Nat → Int32} {ps : Nat → Int32} {pl : Nat → Int64} {ph : Nat → Int64} {mm : Nat → Int64} {out : Nat → Int64} (a1 : Int32) : x_M l y_Pg_stepAt (Cond.code y_Pg_stepAt b_Pg_stepAt 2 (Option.some (Jvm.ClassFile.FieldType.object "CheckedMachine$Step")) :: x_Wd) { frames := 0, cells := 0, slots := 0, locals := 0 } (x_k D cA ad) (x_F ad cA) [(.ref (ad (1, 0))), (.int a1)] ((stp, psz, gk, gl, gh, opn, cki, ckl, mp, rk, rv, ri, chk), (mo, mi, ml, mk, mlo, mhi, pk, ps, pl, ph, mm), out) ((fun q : (Option Nat) => ((some (x_rv ad 3 (q)), ((stp, psz, gk, gl, gh, opn, cki, ckl, mp, rk, rv, ri, chk), (mo, mi, ml, mk, mlo, mhi, pk, ps, pl, ph, mm), out)) : Option Value × x_S)) (s_Pg_stepAt psz a1)) 0 0 := by
  refine x_start (κ := x_k D cA ad) (cc := b_Pg_stepAt) (F := x_F ad cA) (wr := (fun q : (Option Nat) => ((some (x_rv ad 3 (q)), ((stp, psz, gk, gl, gh, opn, cki, ckl, mp, rk, rv, ri, chk), (mo, mi, ml, mk, mlo, mhi, pk, ps, pl, ph, mm), out)) : Option Value × x_S))) (q := s_Pg_stepAt psz a1) (ret := (Option.some (Jvm.ClassFile.FieldType.object "CheckedMachine$Step"))) (lv0 := [(0, (.ref (ad (1, 0)))), (1, (.int a1))]) ok (by decide) rfl (Nat.le_of_ble_eq_true rfl) rfl ?_
  intro p e s m below meth c C hr hlk
  unfold s_Pg_stepAt
  refine x_iload_n 1 C d_Pg_stepAt_0 rfl rfl ?_
  refine x_if_lt 27 C d_Pg_stepAt_1 (by decide) (fun z1 => ?_) (fun z1 => ?_)
  · refine x_null C d_Pg_stepAt_27 ?_
    exact x_aret C hr hlk (Or.inl rfl) rfl d_Pg_stepAt_28
  · refine x_iload_n 1 C d_Pg_stepAt_4 rfl rfl ?_
    refine x_aload_n 0 C d_Pg_stepAt_5 rfl rfl ?_
    refine x_get (i := (1, 0)) (v := (.int psz)) 1 C m_1 rfl rfl i_Pg (by decide) (List.mem_cons_of_mem _ q_80) rfl d_Pg_stepAt_6 ?_
    refine x_icmp_ge 27 C d_Pg_stepAt_9 (by decide) (fun z2 => ?_) (fun z2 => ?_)
    · refine x_null C d_Pg_stepAt_27 ?_
      exact x_aret C hr hlk (Or.inl rfl) rfl d_Pg_stepAt_28
    · refine x_iload_n 1 C d_Pg_stepAt_12 rfl rfl ?_
      refine x_bipush (v := 24) C d_Pg_stepAt_13 (by decide) ?_
      refine x_icmp_ge 27 C d_Pg_stepAt_15 (by decide) (fun z3 => ?_) (fun z3 => ?_)
      · refine x_null C d_Pg_stepAt_27 ?_
        exact x_aret C hr hlk (Or.inl rfl) rfl d_Pg_stepAt_28
      · refine x_aload_n 0 C d_Pg_stepAt_18 rfl rfl ?_
        refine x_get (i := (1, 0)) (v := (.ref (ad (2, 0)))) 0 C m_1 rfl rfl i_Pg (by decide) (List.mem_cons_of_mem _ q_79) rfl d_Pg_stepAt_19 ?_
        refine x_iload_n 1 C d_Pg_stepAt_22 rfl rfl ?_
        refine x_aald (i := (2, 0)) 3 C m_2 rfl rfl (x_rng z1 z3 (by decide)) d_Pg_stepAt_23 ?_
        refine x_goto 28 C d_Pg_stepAt_24 (by decide) ?_
        exact x_aret C hr hlk (Or.inr ⟨_, rfl⟩) rfl d_Pg_stepAt_28
theorem r_Pg_stepAt {psz a1 : Int32} {j : Nat} (h : s_Pg_stepAt psz a1 = some j) : j < 24 := by
  unfold s_Pg_stepAt at h
  by_cases h1 : a1 < 0
  · rw [if_pos h1] at h; cases h
  · rw [if_neg h1] at h
    by_cases h2 : psz ≤ a1
    · rw [if_pos h2] at h; cases h
    · rw [if_neg h2] at h
      by_cases h3 : (24 : Int32) ≤ a1
      · rw [if_pos h3] at h; cases h
      · rw [if_neg h3] at h
        cases h
        rw [Int32.lt_iff_toInt_lt, Int32.toInt_zero] at h1
        rw [Int32.le_iff_toInt_le] at h3
        have : (24 : Int32).toInt = 24 := rfl
        rw [this] at h3
        rw [← Int32.toNat_toInt]
        omega
theorem r2_Pg_stepAt {psz a1 : Int32} {j : Nat} (h : s_Pg_stepAt psz a1 = some j) : vp_in a1 24 := by
  unfold s_Pg_stepAt at h
  by_cases h1 : a1 < 0
  · rw [if_pos h1] at h; cases h
  · rw [if_neg h1] at h
    by_cases h2 : psz ≤ a1
    · rw [if_pos h2] at h; cases h
    · rw [if_neg h2] at h
      by_cases h3 : (24 : Int32) ≤ a1
      · rw [if_pos h3] at h; cases h
      · exact x_rng h1 h3 (by decide)
def s_Pg_write (stp : Nat → Nat → Int32) (psz : Int32) (a1 : Int32) (a2 : Int32) (a3 : Int32) (a4 : Int32) (a5 : Int32) (a6 : Int32) : (Nat → Nat → Int32) :=
  (x_let (s_Pg_stepAt psz a1) fun r1 => match r1 with | none => (stp) | some j1 => (va_up (va_up (va_up (va_up (va_up stp j1 (upd (stp j1) 0 a2)) j1 (upd ((va_up stp j1 (upd (stp j1) 0 a2)) j1) 1 a3)) j1 (upd ((va_up (va_up stp j1 (upd (stp j1) 0 a2)) j1 (upd ((va_up stp j1 (upd (stp j1) 0 a2)) j1) 1 a3)) j1) 2 a4)) j1 (upd ((va_up (va_up (va_up stp j1 (upd (stp j1) 0 a2)) j1 (upd ((va_up stp j1 (upd (stp j1) 0 a2)) j1) 1 a3)) j1 (upd ((va_up (va_up stp j1 (upd (stp j1) 0 a2)) j1 (upd ((va_up stp j1 (upd (stp j1) 0 a2)) j1) 1 a3)) j1) 2 a4)) j1) 3 a5)) j1 (upd ((va_up (va_up (va_up (va_up stp j1 (upd (stp j1) 0 a2)) j1 (upd ((va_up stp j1 (upd (stp j1) 0 a2)) j1) 1 a3)) j1 (upd ((va_up (va_up stp j1 (upd (stp j1) 0 a2)) j1 (upd ((va_up stp j1 (upd (stp j1) 0 a2)) j1) 1 a3)) j1) 2 a4)) j1 (upd ((va_up (va_up (va_up stp j1 (upd (stp j1) 0 a2)) j1 (upd ((va_up stp j1 (upd (stp j1) 0 a2)) j1) 1 a3)) j1 (upd ((va_up (va_up stp j1 (upd (stp j1) 0 a2)) j1 (upd ((va_up stp j1 (upd (stp j1) 0 a2)) j1) 1 a3)) j1) 2 a4)) j1) 3 a5)) j1) 4 a6)))
set_option maxHeartbeats 4000000 in
set_option maxRecDepth 100000 in
theorem c_Pg_write {l : Launch} {D : va_G} {cA : Nat → ClassId} {ad : x_I → Nat} (ok : x_ok (x_k D cA ad)) {stp : Nat → Nat → Int32} {psz : Int32} {gk : Nat → Nat → Int32} {gl : Nat → Nat → Int64} {gh : Nat → Nat → Int64} {opn : Nat → Int32} {cki : Nat → Int32} {ckl : Nat → Int64} {mp : Nat → Nat → Int64} {rk : Nat → Int32} {rv : Nat → Int64} {ri : Nat → Int32} {chk : Int32} {mo : Nat → Nat → Int32} {mi : Nat → Int32} {ml : Nat → Int64} {mk : Nat → Int32} {mlo : Nat → Int64} {mhi : Nat → Int64} {pk : Nat → Int32} {ps : Nat → Int32} {pl : Nat → Int64} {ph : Nat → Int64} {mm : Nat → Int64} {out : Nat → Int64} (a1 : Int32) (a2 : Int32) (a3 : Int32) (a4 : Int32) (a5 : Int32) (a6 : Int32) : x_M l y_Pg_write (Cond.code y_Pg_write b_Pg_write 8 (Option.none : Option Jvm.ClassFile.FieldType) :: x_Wd) { frames := 1, cells := 0, slots := 0, locals := 21 } (x_k D cA ad) (x_F ad cA) [(.ref (ad (1, 0))), (.int a1), (.int a2), (.int a3), (.int a4), (.int a5), (.int a6)] ((stp, psz, gk, gl, gh, opn, cki, ckl, mp, rk, rv, ri, chk), (mo, mi, ml, mk, mlo, mhi, pk, ps, pl, ph, mm), out) ((fun q : (Nat → Nat → Int32) => ((none, ((q, psz, gk, gl, gh, opn, cki, ckl, mp, rk, rv, ri, chk), (mo, mi, ml, mk, mlo, mhi, pk, ps, pl, ph, mm), out)) : Option Value × x_S)) (s_Pg_write stp psz a1 a2 a3 a4 a5 a6)) 0 0 := by
  refine x_start (κ := x_k D cA ad) (cc := b_Pg_write) (F := x_F ad cA) (wr := (fun q : (Nat → Nat → Int32) => ((none, ((q, psz, gk, gl, gh, opn, cki, ckl, mp, rk, rv, ri, chk), (mo, mi, ml, mk, mlo, mhi, pk, ps, pl, ph, mm), out)) : Option Value × x_S))) (q := s_Pg_write stp psz a1 a2 a3 a4 a5 a6) (ret := (Option.none : Option Jvm.ClassFile.FieldType)) (lv0 := [(0, (.ref (ad (1, 0)))), (1, (.int a1)), (2, (.int a2)), (3, (.int a3)), (4, (.int a4)), (5, (.int a5)), (6, (.int a6))]) ok (by decide) rfl (Nat.le_of_ble_eq_true rfl) rfl ?_
  intro p e s m below meth c C hr hlk
  unfold s_Pg_write
  refine x_aload_n 0 C d_Pg_write_0 rfl rfl ?_
  refine x_iload_n 1 C d_Pg_write_1 rfl rfl ?_
  refine x_cv (i := (1, 0)) (F := x_F ad cA) (As := [(.int a1)]) (rest := []) C k_Pg_stepAt q_351 (c_Pg_stepAt ok a1) rfl rfl rfl (Nat.le_of_ble_eq_true rfl) (Nat.le_of_ble_eq_true rfl) m_1 rfl rfl rfl rfl rfl (Nat.le_of_ble_eq_true rfl) d_Pg_write_2 ⟨Nat.zero_le _, Nat.zero_le _⟩ ?_
  generalize hq1 : s_Pg_stepAt psz a1 = r1
  refine x_lets ?_
  cases r1 with
  | none =>
    dsimp only [x_rv]
    refine x_astoreN (lv' := [(7, .null), (0, (.ref (ad (1, 0)))), (1, (.int a1)), (2, (.int a2)), (3, (.int a3)), (4, (.int a4)), (5, (.int a5)), (6, (.int a6))]) C d_Pg_write_5 (by decide) rfl ?_
    refine x_aloadN 0 C d_Pg_write_7 rfl ?_
    refine x_ifnonnullN C d_Pg_write_9 ?_
    exact x_vret C hr hlk rfl d_Pg_write_12
  | some j1 =>
    dsimp only [x_rv]
    have hj1 : j1 < 24 := r_Pg_stepAt hq1
    refine x_astore (lv' := [(7, (.ref (ad (3, j1)))), (0, (.ref (ad (1, 0)))), (1, (.int a1)), (2, (.int a2)), (3, (.int a3)), (4, (.int a4)), (5, (.int a5)), (6, (.int a6))]) C d_Pg_write_5 (by decide) rfl ?_
    refine x_aload 0 C d_Pg_write_7 rfl ?_
    refine x_ifnonnullR 13 C d_Pg_write_9 (by decide) ?_
    refine x_aload 0 C d_Pg_write_13 rfl ?_
    refine x_iload_n 3 C d_Pg_write_15 rfl rfl ?_
    refine x_put (i := (3, j1)) (f' := x_F ad cA ((va_up stp j1 (upd (stp j1) 0 a2), psz, gk, gl, gh, opn, cki, ckl, mp, rk, rv, ri, chk), (mo, mi, ml, mk, mlo, mhi, pk, ps, pl, ph, mm), out)) 0 C (m_3 hj1) rfl rfl i_St t_St_ok n_St (by decide) (List.mem_cons_of_mem _ q_45) rfl rfl rfl (Nat.le_of_ble_eq_true rfl) d_Pg_write_16 e_stp0 ?_
    refine x_aload 0 C d_Pg_write_19 rfl ?_
    refine x_iload_n 4 C d_Pg_write_21 rfl rfl ?_
    refine x_put (i := (3, j1)) (f' := x_F ad cA ((va_up (va_up stp j1 (upd (stp j1) 0 a2)) j1 (upd ((va_up stp j1 (upd (stp j1) 0 a2)) j1) 1 a3), psz, gk, gl, gh, opn, cki, ckl, mp, rk, rv, ri, chk), (mo, mi, ml, mk, mlo, mhi, pk, ps, pl, ph, mm), out)) 1 C (m_3 hj1) rfl rfl i_St t_St_ok n_St (by decide) (List.mem_cons_of_mem _ q_51) rfl rfl rfl (Nat.le_of_ble_eq_true rfl) d_Pg_write_22 e_stp1 ?_
    refine x_aload 0 C d_Pg_write_25 rfl ?_
    refine x_iload 5 C d_Pg_write_27 rfl ?_
    refine x_put (i := (3, j1)) (f' := x_F ad cA ((va_up (va_up (va_up stp j1 (upd (stp j1) 0 a2)) j1 (upd ((va_up stp j1 (upd (stp j1) 0 a2)) j1) 1 a3)) j1 (upd ((va_up (va_up stp j1 (upd (stp j1) 0 a2)) j1 (upd ((va_up stp j1 (upd (stp j1) 0 a2)) j1) 1 a3)) j1) 2 a4), psz, gk, gl, gh, opn, cki, ckl, mp, rk, rv, ri, chk), (mo, mi, ml, mk, mlo, mhi, pk, ps, pl, ph, mm), out)) 2 C (m_3 hj1) rfl rfl i_St t_St_ok n_St (by decide) (List.mem_cons_of_mem _ q_56) rfl rfl rfl (Nat.le_of_ble_eq_true rfl) d_Pg_write_29 e_stp2 ?_
    refine x_aload 0 C d_Pg_write_32 rfl ?_
    refine x_iload 6 C d_Pg_write_34 rfl ?_
    refine x_put (i := (3, j1)) (f' := x_F ad cA ((va_up (va_up (va_up (va_up stp j1 (upd (stp j1) 0 a2)) j1 (upd ((va_up stp j1 (upd (stp j1) 0 a2)) j1) 1 a3)) j1 (upd ((va_up (va_up stp j1 (upd (stp j1) 0 a2)) j1 (upd ((va_up stp j1 (upd (stp j1) 0 a2)) j1) 1 a3)) j1) 2 a4)) j1 (upd ((va_up (va_up (va_up stp j1 (upd (stp j1) 0 a2)) j1 (upd ((va_up stp j1 (upd (stp j1) 0 a2)) j1) 1 a3)) j1 (upd ((va_up (va_up stp j1 (upd (stp j1) 0 a2)) j1 (upd ((va_up stp j1 (upd (stp j1) 0 a2)) j1) 1 a3)) j1) 2 a4)) j1) 3 a5), psz, gk, gl, gh, opn, cki, ckl, mp, rk, rv, ri, chk), (mo, mi, ml, mk, mlo, mhi, pk, ps, pl, ph, mm), out)) 3 C (m_3 hj1) rfl rfl i_St t_St_ok n_St (by decide) (List.mem_cons_of_mem _ q_62) rfl rfl rfl (Nat.le_of_ble_eq_true rfl) d_Pg_write_36 e_stp3 ?_
    refine x_aload 0 C d_Pg_write_39 rfl ?_
    refine x_iload 7 C d_Pg_write_41 rfl ?_
    refine x_put (i := (3, j1)) (f' := x_F ad cA ((va_up (va_up (va_up (va_up (va_up stp j1 (upd (stp j1) 0 a2)) j1 (upd ((va_up stp j1 (upd (stp j1) 0 a2)) j1) 1 a3)) j1 (upd ((va_up (va_up stp j1 (upd (stp j1) 0 a2)) j1 (upd ((va_up stp j1 (upd (stp j1) 0 a2)) j1) 1 a3)) j1) 2 a4)) j1 (upd ((va_up (va_up (va_up stp j1 (upd (stp j1) 0 a2)) j1 (upd ((va_up stp j1 (upd (stp j1) 0 a2)) j1) 1 a3)) j1 (upd ((va_up (va_up stp j1 (upd (stp j1) 0 a2)) j1 (upd ((va_up stp j1 (upd (stp j1) 0 a2)) j1) 1 a3)) j1) 2 a4)) j1) 3 a5)) j1 (upd ((va_up (va_up (va_up (va_up stp j1 (upd (stp j1) 0 a2)) j1 (upd ((va_up stp j1 (upd (stp j1) 0 a2)) j1) 1 a3)) j1 (upd ((va_up (va_up stp j1 (upd (stp j1) 0 a2)) j1 (upd ((va_up stp j1 (upd (stp j1) 0 a2)) j1) 1 a3)) j1) 2 a4)) j1 (upd ((va_up (va_up (va_up stp j1 (upd (stp j1) 0 a2)) j1 (upd ((va_up stp j1 (upd (stp j1) 0 a2)) j1) 1 a3)) j1 (upd ((va_up (va_up stp j1 (upd (stp j1) 0 a2)) j1 (upd ((va_up stp j1 (upd (stp j1) 0 a2)) j1) 1 a3)) j1) 2 a4)) j1) 3 a5)) j1) 4 a6), psz, gk, gl, gh, opn, cki, ckl, mp, rk, rv, ri, chk), (mo, mi, ml, mk, mlo, mhi, pk, ps, pl, ph, mm), out)) 4 C (m_3 hj1) rfl rfl i_St t_St_ok n_St (by decide) (List.mem_cons_of_mem _ q_65) rfl rfl rfl (Nat.le_of_ble_eq_true rfl) d_Pg_write_43 e_stp4 ?_
    exact x_vret C hr hlk rfl d_Pg_write_46
